/-! WHAT THE PURE PART OWES: Inv V n q m o: class (object q) and reference (object m) agree, o is the law's long[1] -/
abbrev LI : Type := zV → Nat → Nat → Nat → Nat → Prop
def lO (V : zV) (o : Nat) (f : Nat → Int64) : Prop := ∃ N, V o = some (.inl (1, N, .inr (.inl f))) ∧ 0 < N
def lB (V : zV) (a ci : Nat) : Prop := ∃ fs, V a = some (.inr (ci, fs))
/-- a call of the class (fB) and then of the reference (fR), which answers r of the form con -/
def LOp {ρ : Type} (Inv : LI) (fB fR : zV → Nat → Nat → Option zR) (cods : List (String × Int32)) (ty : Option Value → Prop) (up : zR → Nat → Option Value → zV) (con : ρ → Option Value) (lg : ρ → Int64) : Prop := ∀ (V : zV) (n q m o : Nat), Inv V n q m o → lB V q 5 ∧ ∃ w1, fB V n q = some w1 ∧ (∀ v, w1.1 = .inl v → ty v) ∧ hO w1 o ∧ (∀ E, w1.1 = .inr E → E ∈ cods.map (·.1)) ∧ ∀ (k : Int32) (V1 : zV) (n1 : Nat), hP w1 cods n (up w1 o) k V1 n1 → lB V1 m 6 ∧ ∃ (r : ρ) (V2 : zV) (n2 : Nat), fR V1 n1 m = some (.inl (con r), V2, n2) ∧ lB V2 m 6 ∧ fR_thrown V2 n2 m = some (.inl (some (.int k)), V2, n2) ∧ Inv V2 n2 q m o ∧ ∃ f, lO V2 o f ∧ (k = 0 → f 0 = lg r)
def LInt (Inv : LI) (fB fR : zV → Nat → Nat → Option zR) (cods : List (String × Int32)) : Prop := LOp (ρ := Int32) Inv fB fR cods (fun v => ∃ i, v = some (.int i)) (fun w1 o v => hOut w1.2.1 o (hlong v)) (fun r => some (.int r)) (fun r => r.toInt64)
def LLong (Inv : LI) (fB fR : zV → Nat → Nat → Option zR) (cods : List (String × Int32)) : Prop := LOp (ρ := Int64) Inv fB fR cods (fun v => ∃ i, v = some (.long i)) (fun w1 o v => hOut w1.2.1 o (hlong v)) (fun r => some (.long r)) (fun r => r)
def LBool (Inv : LI) (fB fR : zV → Nat → Nat → Option zR) (cods : List (String × Int32)) : Prop := LOp (ρ := Int32) Inv fB fR cods (fun v => ∃ i, v = some (.int i)) (fun w1 o v => hOut w1.2.1 o (hbool v)) (fun r => some (.int r)) (fun r => if r = 0 then 0 else 1)
def LVoid (Inv : LI) (fB fR : zV → Nat → Nat → Option zR) (cods : List (String × Int32)) : Prop := ∀ (V : zV) (n q m o : Nat), Inv V n q m o → lB V q 5 ∧ ∃ w1, fB V n q = some w1 ∧ (∀ v, w1.1 = .inl v → v = none) ∧ (∀ E, w1.1 = .inr E → E ∈ cods.map (·.1)) ∧ ∀ (k : Int32) (V1 : zV) (n1 : Nat), hP w1 cods n (fun _ => w1.2.1) k V1 n1 → lB V1 m 6 ∧ ∃ (V2 : zV) (n2 : Nat), fR V1 n1 m = some (.inl none, V2, n2) ∧ lB V2 m 6 ∧ fR_thrown V2 n2 m = some (.inl (some (.int k)), V2, n2) ∧ Inv V2 n2 q m o
def LSteps (Inv : LI) : Prop := (∀ (a0 : Int32) (a1 : Int32), LInt Inv (fun V n q => fB_channel V n q a0 a1) (fun V n m => fR_channel V n m a0 a1) [("java/lang/IndexOutOfBoundsException", 1), ("java/lang/IllegalStateException", 2), ("java/lang/IllegalArgumentException", 3)]) ∧ (∀ (a0 : Int32) (a1 : Int64), LInt Inv (fun V n q => fB_send V n q a0 a1) (fun V n m => fR_send V n m a0 a1) [("java/lang/IndexOutOfBoundsException", 1), ("java/lang/IllegalStateException", 2)]) ∧ (∀ (a0 : Int32), LInt Inv (fun V n q => fB_finish V n q a0) (fun V n m => fR_finish V n m a0) [("java/lang/IndexOutOfBoundsException", 1), ("java/lang/IllegalStateException", 2)]) ∧ (LInt Inv (fun V n q => fB_mark V n q) (fun V n m => fR_mark V n m) [("java/lang/IllegalStateException", 1)]) ∧ (∀ (a0 : Int32), LInt Inv (fun V n q => fB_turn V n q a0) (fun V n m => fR_turn V n m a0) [("java/lang/IndexOutOfBoundsException", 1)]) ∧ (∀ (a0 : Int64) (a1 : Int32), LInt Inv (fun V n q => fB_play V n q a0 a1) (fun V n m => fR_play V n m a0 a1) [("java/lang/IllegalArgumentException", 1)]) ∧ (∀ (a0 : Int32), LInt Inv (fun V n q => fB_giveUp V n q a0) (fun V n m => fR_giveUp V n m a0) [("java/lang/IndexOutOfBoundsException", 1), ("java/lang/IllegalStateException", 2)]) ∧ (∀ (a0 : Int32) (a1 : Int32), LVoid Inv (fun V n q => fB_fails V n q a0 a1) (fun V n m => fR_fails V n m a0 a1) [("java/lang/IndexOutOfBoundsException", 1), ("java/lang/IllegalStateException", 2)]) ∧ (∀ (a0 : Int32) (a1 : Int32), LInt Inv (fun V n q => fB_again V n q a0 a1) (fun V n m => fR_again V n m a0 a1) [("java/lang/IndexOutOfBoundsException", 1), ("java/lang/IllegalStateException", 2)]) ∧ (∀ (a0 : Int32), LInt Inv (fun V n q => fB_restore V n q a0) (fun V n m => fR_restore V n m a0) [("java/lang/IndexOutOfBoundsException", 1), ("java/lang/IllegalStateException", 2)]) ∧ (∀ (a0 : Int32), LLong Inv (fun V n q => fB_state V n q a0) (fun V n m => fR_state V n m a0) [("java/lang/IndexOutOfBoundsException", 1)]) ∧ (∀ (a0 : Int32) (a1 : Int32), LInt Inv (fun V n q => fB_task V n q a0 a1) (fun V n m => fR_task V n m a0 a1) [("java/lang/IndexOutOfBoundsException", 1), ("java/lang/IllegalArgumentException", 2)]) ∧ (∀ (a0 : Int32) (a1 : Int32), LLong Inv (fun V n q => fB_kept V n q a0 a1) (fun V n m => fR_kept V n m a0 a1) [("java/lang/IndexOutOfBoundsException", 1), ("java/lang/IllegalStateException", 2)]) ∧ (∀ (a0 : Int32) (a1 : Int32), LInt Inv (fun V n q => fB_keptRows V n q a0 a1) (fun V n m => fR_keptRows V n m a0 a1) [("java/lang/IndexOutOfBoundsException", 1), ("java/lang/IllegalStateException", 2)]) ∧ (∀ (a0 : Int32) (a1 : Int32), LInt Inv (fun V n q => fB_position V n q a0 a1) (fun V n m => fR_position V n m a0 a1) [("java/lang/IndexOutOfBoundsException", 1)]) ∧ (∀ (a0 : Int32), LInt Inv (fun V n q => fB_condition V n q a0) (fun V n m => fR_condition V n m a0) [("java/lang/IndexOutOfBoundsException", 1)]) ∧ (∀ (a0 : Int32), LInt Inv (fun V n q => fB_acknowledged V n q a0) (fun V n m => fR_acknowledged V n m a0) [("java/lang/IndexOutOfBoundsException", 1)]) ∧ (∀ (a0 : Int32), LBool Inv (fun V n q => fB_exact V n q a0) (fun V n m => fR_exact V n m a0) [("java/lang/IndexOutOfBoundsException", 1), ("java/lang/IllegalStateException", 2)]) ∧ (∀ (a0 : Int32), LInt Inv (fun V n q => fB_held V n q a0) (fun V n m => fR_held V n m a0) [("java/lang/IndexOutOfBoundsException", 1)]) ∧ (∀ (a0 : Int32), LInt Inv (fun V n q => fB_waiting V n q a0) (fun V n m => fR_waiting V n m a0) [("java/lang/IndexOutOfBoundsException", 1)]) ∧ (∀ (a0 : Int32) (a1 : Int32), LInt Inv (fun V n q => fB_kind V n q a0 a1) (fun V n m => fR_kind V n m a0 a1) [("java/lang/IndexOutOfBoundsException", 1)]) ∧ (∀ (a0 : Int32) (a1 : Int32), LLong Inv (fun V n q => fB_value V n q a0 a1) (fun V n m => fR_value V n m a0 a1) [("java/lang/IndexOutOfBoundsException", 1)]) ∧ (∀ (a0 : Int32), LInt Inv (fun V n q => fB_told V n q a0) (fun V n m => fR_told V n m a0) [("java/lang/IllegalArgumentException", 1)])
/-- the two constructors and the array -/
def LInit (Inv : LI) : Prop := ∀ (n : Nat) (t : Int32), ∃ V1 n1 V2 n2, fB_init (z_up (fun _ => none) n (.inr (5, zfs5))) (n + 1) n t = some (.inl none, V1, n1) ∧ fR_init (z_up V1 n1 (.inr (6, zfs6))) (n1 + 1) n1 t = some (.inl none, V2, n2) ∧ Inv (z_up V2 n2 (.inl (1, 1, .inr (.inl (fun _ => 0))))) (n2 + 1) n n1 n2
def LOk (Inv : LI) : Prop := LInit Inv ∧ LSteps Inv
set_option maxHeartbeats 4000000 in
set_option maxRecDepth 100000 in
theorem law_0 {x : gX} {Inv : LI} {b Ln : Nat} {xs : Nat → Int32} {sz : Nat} {Q : State → Prop} (C : gC x (fun q => sz ≤ q) code "BarrierMarksLaw" 8 12 444 601024 7292999) (S : gS x (fun q => sz ≤ q) b Ln xs) (hNN : match x with | (_, _, _, _, s, _, _, _, _, _, _, _) => hN s) (hstep : ∀ (a0 : Int32) (a1 : Int32), LInt Inv (fun V n q => fB_channel V n q a0 a1) (fun V n m => fR_channel V n m a0 a1) [("java/lang/IndexOutOfBoundsException", 1), ("java/lang/IllegalStateException", 2), ("java/lang/IllegalArgumentException", 3)]) {V : zV} {n q m o : Nat} (hInv : Inv V n q m o) {i : Int32} {cells slots c2 s2 : Nat} (hc8 : cells + 8 ≤ c2) (hs8 : slots + 302 ≤ s2) (hc2 : c2 ≤ 601024) (hs2 : s2 ≤ 7292999) (hin1 : vp_in (i + 1) Ln) (hin2 : vp_in (i + 2) Ln) (hin3 : vp_in (i + 3) Ln) (kend : ∀ (V2 : zV) (n2 : Nat) (lv : List (Nat × Value)), lv.filter (fun z => z.1 < 5) = [(0, .ref b), (1, .ref q), (2, .ref m), (3, .ref o), (4, .int i)] → Inv V2 n2 q m o → gZ x (fun q => sz ≤ q) Q 8 c2 s2 V2 n2 1612 lv []) : gZ x (fun q => sz ≤ q) Q 8 cells slots V n 156 [(0, .ref b), (1, .ref q), (2, .ref m), (3, .ref o), (4, .int i)] [] := by
  have hc : cells + 6 ≤ 601024 := by omega
  have hs : slots + 302 ≤ 7292999 := by omega
  obtain ⟨⟨fs, hq⟩, w1, hB, ht, ho, hx, hk⟩ := hstep ((xs (i + 1).toNatClampNeg)) ((xs (i + 2).toNatClampNeg)) V n q m o hInv
  refine g_aload_n C 1 dL_156 rfl rfl ?_
  refine g_aload_n C 0 dL_157 rfl rfl ?_
  refine g_iload C 4 dL_158 rfl ?_
  refine g_iconst (v := 1) C dL_160 (by decide) ?_
  refine g_iadd C dL_161 ?_
  refine g_sld C S hin1 dL_162 ?_
  refine g_aload_n C 0 dL_163 rfl rfl ?_
  refine g_iload C 4 dL_164 rfl ?_
  refine g_iconst (v := 2) C dL_166 (by decide) ?_
  refine g_iadd C dL_167 ?_
  refine g_sld C S hin2 dL_168 ?_
  refine g_aload_n C 3 dL_169 rfl rfl ?_
  refine g_callH C hNN [.ref q, .int (xs (i + 1).toNatClampNeg), .int (xs (i + 2).toNatClampNeg), .ref o] cs_W_105 cw_W_channel (fun l D dA hl => hW_channel hl hB hq ht ho hx) (by decide) (by decide) rfl rfl (Nat.zero_le _) dL_170 hc hs (fun k V1 n1 hP9 => ?_)
  obtain ⟨⟨fs1, hm1⟩, r, V2, n2, hR, ⟨fs2, hm2⟩, hT, hInv, f, ⟨N, hO1, hO2⟩, hf⟩ := hk k V1 n1 hP9
  refine g_widen (c2 := c2) (s2 := s2) (by omega) (by omega) ?_
  refine g_istore (lv' := [(5, .int k), (0, .ref b), (1, .ref q), (2, .ref m), (3, .ref o), (4, .int i)]) C dL_173 (by decide) rfl ?_
  refine g_aload_n C 3 dL_175 rfl rfl ?_
  refine g_aload_n C 1 dL_176 rfl rfl ?_
  refine g_iload C 5 dL_177 rfl ?_
  refine g_iconst (v := 1) C dL_179 (by decide) ?_
  refine g_iadd C dL_180 ?_
  refine g_sld C S hin1 dL_181 ?_
  refine g_aload_n C 1 dL_182 rfl rfl ?_
  refine g_iload C 5 dL_183 rfl ?_
  refine g_iconst (v := 2) C dL_185 (by decide) ?_
  refine g_iadd C dL_186 ?_
  refine g_sld C S hin2 dL_187 ?_
  have hMM := fun (l : Launch) (D : va_G) (dA : Nat → ClassId) (hl : l.stackTraces = false) => mR_channel (l := l) (D := D) (dA := dA) hl hR
  refine g_core (w1 := (.inl (some (.int r)), V2, n2)) C (g_runV (mc1 := 0) (ms1 := 0) (As := [.int (xs (i + 1).toNatClampNeg), .int (xs (i + 2).toNatClampNeg)]) C cv_W_108 hm1 rfl hMM (by decide) (by decide) rfl rfl (Nat.zero_le _) dL_188 (by omega) (by omega)) (fun v hv => ?_) (fun E n9 hE => by cases hE)
  cases hv
  show gZ x _ _ 8 _ _ V2 n2 _ _ [.int r]
  refine g_istore (lv' := [(6, .int r), (5, .int k), (0, .ref b), (1, .ref q), (2, .ref m), (3, .ref o), (4, .int i)]) C dL_191 (by decide) rfl ?_
  refine g_aload_n C 4 dL_193 rfl rfl ?_
  have hMM := fun (l : Launch) (D : va_G) (dA : Nat → ClassId) (hl : l.stackTraces = false) => mR_thrown (l := l) (D := D) (dA := dA) hl hT
  refine g_core (w1 := (.inl (some (.int k)), V2, n2)) C (g_runV (mc1 := 0) (ms1 := 0) (As := []) C cv_W_109 hm2 rfl hMM (by decide) (by decide) rfl rfl (Nat.zero_le _) dL_194 (by omega) (by omega)) (fun v hv => ?_) (fun E n9 hE => by cases hE)
  cases hv
  show gZ x _ _ 8 _ _ V2 n2 _ _ [.int k]
  refine g_iload C 1 dL_197 rfl ?_
  refine g_icmp_eq C 204 dL_199 (by decide) (fun _ => ?_) (fun h9 => absurd rfl h9)
  refine g_iload C 1 dL_204 rfl ?_
  refine g_if_ne C 221 dL_206 (by decide) (fun _ => ?_) (fun hz => ?_)
  · refine g_goto C 1612 dL_221 (by decide) ?_
    exact kend V2 n2 [(6, .int r), (5, .int k), (0, .ref b), (1, .ref q), (2, .ref m), (3, .ref o), (4, .int i)] rfl hInv
  · refine g_aload_n C 5 dL_209 rfl rfl ?_
    refine g_iconst (v := 0) C dL_210 (by decide) ?_
    refine g_lald C hO1 (h_in0 hO2) dL_211 ?_
    refine g_iload C 0 dL_212 rfl ?_
    refine g_i2l C dL_214 ?_
    refine g_lcmp C dL_215 ?_
    refine g_if_eq C 221 dL_216 (by decide) (fun _ => ?_) (fun h9 => absurd ((lg_cmp_eq _ _).mpr (hf hz)) h9)
    refine g_goto C 1612 dL_221 (by decide) ?_
    exact kend V2 n2 [(6, .int r), (5, .int k), (0, .ref b), (1, .ref q), (2, .ref m), (3, .ref o), (4, .int i)] rfl hInv
set_option maxHeartbeats 4000000 in
set_option maxRecDepth 100000 in
theorem law_1 {x : gX} {Inv : LI} {b Ln : Nat} {xs : Nat → Int32} {sz : Nat} {Q : State → Prop} (C : gC x (fun q => sz ≤ q) code "BarrierMarksLaw" 8 12 444 601024 7292999) (S : gS x (fun q => sz ≤ q) b Ln xs) (hNN : match x with | (_, _, _, _, s, _, _, _, _, _, _, _) => hN s) (hstep : ∀ (a0 : Int32) (a1 : Int64), LInt Inv (fun V n q => fB_send V n q a0 a1) (fun V n m => fR_send V n m a0 a1) [("java/lang/IndexOutOfBoundsException", 1), ("java/lang/IllegalStateException", 2)]) {V : zV} {n q m o : Nat} (hInv : Inv V n q m o) {i : Int32} {cells slots c2 s2 : Nat} (hc8 : cells + 8 ≤ c2) (hs8 : slots + 302 ≤ s2) (hc2 : c2 ≤ 601024) (hs2 : s2 ≤ 7292999) (hin1 : vp_in (i + 1) Ln) (hin2 : vp_in (i + 2) Ln) (hin3 : vp_in (i + 3) Ln) (kend : ∀ (V2 : zV) (n2 : Nat) (lv : List (Nat × Value)), lv.filter (fun z => z.1 < 5) = [(0, .ref b), (1, .ref q), (2, .ref m), (3, .ref o), (4, .int i)] → Inv V2 n2 q m o → gZ x (fun q => sz ≤ q) Q 8 c2 s2 V2 n2 1612 lv []) : gZ x (fun q => sz ≤ q) Q 8 cells slots V n 224 [(0, .ref b), (1, .ref q), (2, .ref m), (3, .ref o), (4, .int i)] [] := by
  have hc : cells + 1 ≤ 601024 := by omega
  have hs : slots + 6 ≤ 7292999 := by omega
  obtain ⟨⟨fs, hq⟩, w1, hB, ht, ho, hx, hk⟩ := hstep ((xs (i + 1).toNatClampNeg)) ((((xs (i + 2).toNatClampNeg).toInt64 <<< ((32 : Int32).toInt64 &&& 63)) ||| ((xs (i + 3).toNatClampNeg).toInt64 &&& 4294967295))) V n q m o hInv
  refine g_aload_n C 1 dL_224 rfl rfl ?_
  refine g_aload_n C 0 dL_225 rfl rfl ?_
  refine g_iload C 4 dL_226 rfl ?_
  refine g_iconst (v := 1) C dL_228 (by decide) ?_
  refine g_iadd C dL_229 ?_
  refine g_sld C S hin1 dL_230 ?_
  refine g_aload_n C 0 dL_231 rfl rfl ?_
  refine g_iload C 4 dL_232 rfl ?_
  refine g_iconst (v := 2) C dL_234 (by decide) ?_
  refine g_iadd C dL_235 ?_
  refine g_sld C S hin2 dL_236 ?_
  refine g_i2l C dL_237 ?_
  refine g_bipush (v := 32) C dL_238 (by decide) ?_
  refine g_lshl C dL_240 rfl ?_
  refine g_aload_n C 0 dL_241 rfl rfl ?_
  refine g_iload C 4 dL_242 rfl ?_
  refine g_iconst (v := 3) C dL_244 (by decide) ?_
  refine g_iadd C dL_245 ?_
  refine g_sld C S hin3 dL_246 ?_
  refine g_i2l C dL_247 ?_
  refine g_ldc2 (v := 4294967295) C dL_248 kl_W_112 ?_
  refine g_land C dL_251 ?_
  refine g_lor C dL_252 ?_
  refine g_aload_n C 3 dL_253 rfl rfl ?_
  refine g_callH C hNN [.ref q, .int (xs (i + 1).toNatClampNeg), .long (((xs (i + 2).toNatClampNeg).toInt64 <<< ((32 : Int32).toInt64 &&& 63)) ||| ((xs (i + 3).toNatClampNeg).toInt64 &&& 4294967295)), .ref o] cs_W_114 cw_W_send (fun l D dA hl => hW_send hl hB hq ht ho hx) (by decide) (by decide) rfl rfl (Nat.zero_le _) dL_254 hc hs (fun k V1 n1 hP9 => ?_)
  obtain ⟨⟨fs1, hm1⟩, r, V2, n2, hR, ⟨fs2, hm2⟩, hT, hInv, f, ⟨N, hO1, hO2⟩, hf⟩ := hk k V1 n1 hP9
  refine g_widen (c2 := c2) (s2 := s2) (by omega) (by omega) ?_
  refine g_istore (lv' := [(5, .int k), (0, .ref b), (1, .ref q), (2, .ref m), (3, .ref o), (4, .int i)]) C dL_257 (by decide) rfl ?_
  refine g_aload_n C 3 dL_259 rfl rfl ?_
  refine g_aload_n C 1 dL_260 rfl rfl ?_
  refine g_iload C 5 dL_261 rfl ?_
  refine g_iconst (v := 1) C dL_263 (by decide) ?_
  refine g_iadd C dL_264 ?_
  refine g_sld C S hin1 dL_265 ?_
  refine g_aload_n C 1 dL_266 rfl rfl ?_
  refine g_iload C 5 dL_267 rfl ?_
  refine g_iconst (v := 2) C dL_269 (by decide) ?_
  refine g_iadd C dL_270 ?_
  refine g_sld C S hin2 dL_271 ?_
  refine g_i2l C dL_272 ?_
  refine g_bipush (v := 32) C dL_273 (by decide) ?_
  refine g_lshl C dL_275 rfl ?_
  refine g_aload_n C 1 dL_276 rfl rfl ?_
  refine g_iload C 5 dL_277 rfl ?_
  refine g_iconst (v := 3) C dL_279 (by decide) ?_
  refine g_iadd C dL_280 ?_
  refine g_sld C S hin3 dL_281 ?_
  refine g_i2l C dL_282 ?_
  refine g_ldc2 (v := 4294967295) C dL_283 kl_W_112 ?_
  refine g_land C dL_286 ?_
  refine g_lor C dL_287 ?_
  have hMM := fun (l : Launch) (D : va_G) (dA : Nat → ClassId) (hl : l.stackTraces = false) => mR_send (l := l) (D := D) (dA := dA) hl hR
  refine g_core (w1 := (.inl (some (.int r)), V2, n2)) C (g_runV (mc1 := 0) (ms1 := 0) (As := [.int (xs (i + 1).toNatClampNeg), .long (((xs (i + 2).toNatClampNeg).toInt64 <<< ((32 : Int32).toInt64 &&& 63)) ||| ((xs (i + 3).toNatClampNeg).toInt64 &&& 4294967295))]) C cv_W_117 hm1 rfl hMM (by decide) (by decide) rfl rfl (Nat.zero_le _) dL_288 (by omega) (by omega)) (fun v hv => ?_) (fun E n9 hE => by cases hE)
  cases hv
  show gZ x _ _ 8 _ _ V2 n2 _ _ [.int r]
  refine g_istore (lv' := [(6, .int r), (5, .int k), (0, .ref b), (1, .ref q), (2, .ref m), (3, .ref o), (4, .int i)]) C dL_291 (by decide) rfl ?_
  refine g_aload_n C 4 dL_293 rfl rfl ?_
  have hMM := fun (l : Launch) (D : va_G) (dA : Nat → ClassId) (hl : l.stackTraces = false) => mR_thrown (l := l) (D := D) (dA := dA) hl hT
  refine g_core (w1 := (.inl (some (.int k)), V2, n2)) C (g_runV (mc1 := 0) (ms1 := 0) (As := []) C cv_W_109 hm2 rfl hMM (by decide) (by decide) rfl rfl (Nat.zero_le _) dL_294 (by omega) (by omega)) (fun v hv => ?_) (fun E n9 hE => by cases hE)
  cases hv
  show gZ x _ _ 8 _ _ V2 n2 _ _ [.int k]
  refine g_iload C 1 dL_297 rfl ?_
  refine g_icmp_eq C 304 dL_299 (by decide) (fun _ => ?_) (fun h9 => absurd rfl h9)
  refine g_iload C 1 dL_304 rfl ?_
  refine g_if_ne C 321 dL_306 (by decide) (fun _ => ?_) (fun hz => ?_)
  · refine g_goto C 1612 dL_321 (by decide) ?_
    exact kend V2 n2 [(6, .int r), (5, .int k), (0, .ref b), (1, .ref q), (2, .ref m), (3, .ref o), (4, .int i)] rfl hInv
  · refine g_aload_n C 5 dL_309 rfl rfl ?_
    refine g_iconst (v := 0) C dL_310 (by decide) ?_
    refine g_lald C hO1 (h_in0 hO2) dL_311 ?_
    refine g_iload C 0 dL_312 rfl ?_
    refine g_i2l C dL_314 ?_
    refine g_lcmp C dL_315 ?_
    refine g_if_eq C 321 dL_316 (by decide) (fun _ => ?_) (fun h9 => absurd ((lg_cmp_eq _ _).mpr (hf hz)) h9)
    refine g_goto C 1612 dL_321 (by decide) ?_
    exact kend V2 n2 [(6, .int r), (5, .int k), (0, .ref b), (1, .ref q), (2, .ref m), (3, .ref o), (4, .int i)] rfl hInv
set_option maxHeartbeats 4000000 in
set_option maxRecDepth 100000 in
theorem law_2 {x : gX} {Inv : LI} {b Ln : Nat} {xs : Nat → Int32} {sz : Nat} {Q : State → Prop} (C : gC x (fun q => sz ≤ q) code "BarrierMarksLaw" 8 12 444 601024 7292999) (S : gS x (fun q => sz ≤ q) b Ln xs) (hNN : match x with | (_, _, _, _, s, _, _, _, _, _, _, _) => hN s) (hstep : ∀ (a0 : Int32), LInt Inv (fun V n q => fB_finish V n q a0) (fun V n m => fR_finish V n m a0) [("java/lang/IndexOutOfBoundsException", 1), ("java/lang/IllegalStateException", 2)]) {V : zV} {n q m o : Nat} (hInv : Inv V n q m o) {i : Int32} {cells slots c2 s2 : Nat} (hc8 : cells + 8 ≤ c2) (hs8 : slots + 302 ≤ s2) (hc2 : c2 ≤ 601024) (hs2 : s2 ≤ 7292999) (hin1 : vp_in (i + 1) Ln) (hin2 : vp_in (i + 2) Ln) (hin3 : vp_in (i + 3) Ln) (kend : ∀ (V2 : zV) (n2 : Nat) (lv : List (Nat × Value)), lv.filter (fun z => z.1 < 5) = [(0, .ref b), (1, .ref q), (2, .ref m), (3, .ref o), (4, .int i)] → Inv V2 n2 q m o → gZ x (fun q => sz ≤ q) Q 8 c2 s2 V2 n2 1612 lv []) : gZ x (fun q => sz ≤ q) Q 8 cells slots V n 324 [(0, .ref b), (1, .ref q), (2, .ref m), (3, .ref o), (4, .int i)] [] := by
  have hc : cells + 1 ≤ 601024 := by omega
  have hs : slots + 6 ≤ 7292999 := by omega
  obtain ⟨⟨fs, hq⟩, w1, hB, ht, ho, hx, hk⟩ := hstep ((xs (i + 1).toNatClampNeg)) V n q m o hInv
  refine g_aload_n C 1 dL_324 rfl rfl ?_
  refine g_aload_n C 0 dL_325 rfl rfl ?_
  refine g_iload C 4 dL_326 rfl ?_
  refine g_iconst (v := 1) C dL_328 (by decide) ?_
  refine g_iadd C dL_329 ?_
  refine g_sld C S hin1 dL_330 ?_
  refine g_aload_n C 3 dL_331 rfl rfl ?_
  refine g_callH C hNN [.ref q, .int (xs (i + 1).toNatClampNeg), .ref o] cs_W_118 cw_W_finish (fun l D dA hl => hW_finish hl hB hq ht ho hx) (by decide) (by decide) rfl rfl (Nat.zero_le _) dL_332 hc hs (fun k V1 n1 hP9 => ?_)
  obtain ⟨⟨fs1, hm1⟩, r, V2, n2, hR, ⟨fs2, hm2⟩, hT, hInv, f, ⟨N, hO1, hO2⟩, hf⟩ := hk k V1 n1 hP9
  refine g_widen (c2 := c2) (s2 := s2) (by omega) (by omega) ?_
  refine g_istore (lv' := [(5, .int k), (0, .ref b), (1, .ref q), (2, .ref m), (3, .ref o), (4, .int i)]) C dL_335 (by decide) rfl ?_
  refine g_aload_n C 3 dL_337 rfl rfl ?_
  refine g_aload_n C 1 dL_338 rfl rfl ?_
  refine g_iload C 5 dL_339 rfl ?_
  refine g_iconst (v := 1) C dL_341 (by decide) ?_
  refine g_iadd C dL_342 ?_
  refine g_sld C S hin1 dL_343 ?_
  have hMM := fun (l : Launch) (D : va_G) (dA : Nat → ClassId) (hl : l.stackTraces = false) => mR_finish (l := l) (D := D) (dA := dA) hl hR
  refine g_core (w1 := (.inl (some (.int r)), V2, n2)) C (g_runV (mc1 := 0) (ms1 := 0) (As := [.int (xs (i + 1).toNatClampNeg)]) C cv_W_121 hm1 rfl hMM (by decide) (by decide) rfl rfl (Nat.zero_le _) dL_344 (by omega) (by omega)) (fun v hv => ?_) (fun E n9 hE => by cases hE)
  cases hv
  show gZ x _ _ 8 _ _ V2 n2 _ _ [.int r]
  refine g_istore (lv' := [(6, .int r), (5, .int k), (0, .ref b), (1, .ref q), (2, .ref m), (3, .ref o), (4, .int i)]) C dL_347 (by decide) rfl ?_
  refine g_aload_n C 4 dL_349 rfl rfl ?_
  have hMM := fun (l : Launch) (D : va_G) (dA : Nat → ClassId) (hl : l.stackTraces = false) => mR_thrown (l := l) (D := D) (dA := dA) hl hT
  refine g_core (w1 := (.inl (some (.int k)), V2, n2)) C (g_runV (mc1 := 0) (ms1 := 0) (As := []) C cv_W_109 hm2 rfl hMM (by decide) (by decide) rfl rfl (Nat.zero_le _) dL_350 (by omega) (by omega)) (fun v hv => ?_) (fun E n9 hE => by cases hE)
  cases hv
  show gZ x _ _ 8 _ _ V2 n2 _ _ [.int k]
  refine g_iload C 1 dL_353 rfl ?_
  refine g_icmp_eq C 360 dL_355 (by decide) (fun _ => ?_) (fun h9 => absurd rfl h9)
  refine g_iload C 1 dL_360 rfl ?_
  refine g_if_ne C 377 dL_362 (by decide) (fun _ => ?_) (fun hz => ?_)
  · refine g_goto C 1612 dL_377 (by decide) ?_
    exact kend V2 n2 [(6, .int r), (5, .int k), (0, .ref b), (1, .ref q), (2, .ref m), (3, .ref o), (4, .int i)] rfl hInv
  · refine g_aload_n C 5 dL_365 rfl rfl ?_
    refine g_iconst (v := 0) C dL_366 (by decide) ?_
    refine g_lald C hO1 (h_in0 hO2) dL_367 ?_
    refine g_iload C 0 dL_368 rfl ?_
    refine g_i2l C dL_370 ?_
    refine g_lcmp C dL_371 ?_
    refine g_if_eq C 377 dL_372 (by decide) (fun _ => ?_) (fun h9 => absurd ((lg_cmp_eq _ _).mpr (hf hz)) h9)
    refine g_goto C 1612 dL_377 (by decide) ?_
    exact kend V2 n2 [(6, .int r), (5, .int k), (0, .ref b), (1, .ref q), (2, .ref m), (3, .ref o), (4, .int i)] rfl hInv
set_option maxHeartbeats 4000000 in
set_option maxRecDepth 100000 in
theorem law_3 {x : gX} {Inv : LI} {b Ln : Nat} {xs : Nat → Int32} {sz : Nat} {Q : State → Prop} (C : gC x (fun q => sz ≤ q) code "BarrierMarksLaw" 8 12 444 601024 7292999) (S : gS x (fun q => sz ≤ q) b Ln xs) (hNN : match x with | (_, _, _, _, s, _, _, _, _, _, _, _) => hN s) (hstep : LInt Inv (fun V n q => fB_mark V n q) (fun V n m => fR_mark V n m) [("java/lang/IllegalStateException", 1)]) {V : zV} {n q m o : Nat} (hInv : Inv V n q m o) {i : Int32} {cells slots c2 s2 : Nat} (hc8 : cells + 8 ≤ c2) (hs8 : slots + 302 ≤ s2) (hc2 : c2 ≤ 601024) (hs2 : s2 ≤ 7292999) (hin1 : vp_in (i + 1) Ln) (hin2 : vp_in (i + 2) Ln) (hin3 : vp_in (i + 3) Ln) (kend : ∀ (V2 : zV) (n2 : Nat) (lv : List (Nat × Value)), lv.filter (fun z => z.1 < 5) = [(0, .ref b), (1, .ref q), (2, .ref m), (3, .ref o), (4, .int i)] → Inv V2 n2 q m o → gZ x (fun q => sz ≤ q) Q 8 c2 s2 V2 n2 1612 lv []) : gZ x (fun q => sz ≤ q) Q 8 cells slots V n 380 [(0, .ref b), (1, .ref q), (2, .ref m), (3, .ref o), (4, .int i)] [] := by
  have hc : cells + 8 ≤ 601024 := by omega
  have hs : slots + 63 ≤ 7292999 := by omega
  obtain ⟨⟨fs, hq⟩, w1, hB, ht, ho, hx, hk⟩ := hstep V n q m o hInv
  refine g_aload_n C 1 dL_380 rfl rfl ?_
  refine g_aload_n C 3 dL_381 rfl rfl ?_
  refine g_callH C hNN [.ref q, .ref o] cs_W_122 cw_W_mark (fun l D dA hl => hW_mark hl hB hq ht ho hx) (by decide) (by decide) rfl rfl (Nat.zero_le _) dL_382 hc hs (fun k V1 n1 hP9 => ?_)
  obtain ⟨⟨fs1, hm1⟩, r, V2, n2, hR, ⟨fs2, hm2⟩, hT, hInv, f, ⟨N, hO1, hO2⟩, hf⟩ := hk k V1 n1 hP9
  refine g_widen (c2 := c2) (s2 := s2) (by omega) (by omega) ?_
  refine g_istore (lv' := [(5, .int k), (0, .ref b), (1, .ref q), (2, .ref m), (3, .ref o), (4, .int i)]) C dL_385 (by decide) rfl ?_
  refine g_aload_n C 3 dL_387 rfl rfl ?_
  have hMM := fun (l : Launch) (D : va_G) (dA : Nat → ClassId) (hl : l.stackTraces = false) => mR_mark (l := l) (D := D) (dA := dA) hl hR
  refine g_core (w1 := (.inl (some (.int r)), V2, n2)) C (g_runV (mc1 := 0) (ms1 := 0) (As := []) C cv_W_125 hm1 rfl hMM (by decide) (by decide) rfl rfl (Nat.zero_le _) dL_388 (by omega) (by omega)) (fun v hv => ?_) (fun E n9 hE => by cases hE)
  cases hv
  show gZ x _ _ 8 _ _ V2 n2 _ _ [.int r]
  refine g_istore (lv' := [(6, .int r), (5, .int k), (0, .ref b), (1, .ref q), (2, .ref m), (3, .ref o), (4, .int i)]) C dL_391 (by decide) rfl ?_
  refine g_aload_n C 4 dL_393 rfl rfl ?_
  have hMM := fun (l : Launch) (D : va_G) (dA : Nat → ClassId) (hl : l.stackTraces = false) => mR_thrown (l := l) (D := D) (dA := dA) hl hT
  refine g_core (w1 := (.inl (some (.int k)), V2, n2)) C (g_runV (mc1 := 0) (ms1 := 0) (As := []) C cv_W_109 hm2 rfl hMM (by decide) (by decide) rfl rfl (Nat.zero_le _) dL_394 (by omega) (by omega)) (fun v hv => ?_) (fun E n9 hE => by cases hE)
  cases hv
  show gZ x _ _ 8 _ _ V2 n2 _ _ [.int k]
  refine g_iload C 1 dL_397 rfl ?_
  refine g_icmp_eq C 404 dL_399 (by decide) (fun _ => ?_) (fun h9 => absurd rfl h9)
  refine g_iload C 1 dL_404 rfl ?_
  refine g_if_ne C 421 dL_406 (by decide) (fun _ => ?_) (fun hz => ?_)
  · refine g_goto C 1612 dL_421 (by decide) ?_
    exact kend V2 n2 [(6, .int r), (5, .int k), (0, .ref b), (1, .ref q), (2, .ref m), (3, .ref o), (4, .int i)] rfl hInv
  · refine g_aload_n C 5 dL_409 rfl rfl ?_
    refine g_iconst (v := 0) C dL_410 (by decide) ?_
    refine g_lald C hO1 (h_in0 hO2) dL_411 ?_
    refine g_iload C 0 dL_412 rfl ?_
    refine g_i2l C dL_414 ?_
    refine g_lcmp C dL_415 ?_
    refine g_if_eq C 421 dL_416 (by decide) (fun _ => ?_) (fun h9 => absurd ((lg_cmp_eq _ _).mpr (hf hz)) h9)
    refine g_goto C 1612 dL_421 (by decide) ?_
    exact kend V2 n2 [(6, .int r), (5, .int k), (0, .ref b), (1, .ref q), (2, .ref m), (3, .ref o), (4, .int i)] rfl hInv
set_option maxHeartbeats 4000000 in
set_option maxRecDepth 100000 in
theorem law_4 {x : gX} {Inv : LI} {b Ln : Nat} {xs : Nat → Int32} {sz : Nat} {Q : State → Prop} (C : gC x (fun q => sz ≤ q) code "BarrierMarksLaw" 8 12 444 601024 7292999) (S : gS x (fun q => sz ≤ q) b Ln xs) (hNN : match x with | (_, _, _, _, s, _, _, _, _, _, _, _) => hN s) (hstep : ∀ (a0 : Int32), LInt Inv (fun V n q => fB_turn V n q a0) (fun V n m => fR_turn V n m a0) [("java/lang/IndexOutOfBoundsException", 1)]) {V : zV} {n q m o : Nat} (hInv : Inv V n q m o) {i : Int32} {cells slots c2 s2 : Nat} (hc8 : cells + 8 ≤ c2) (hs8 : slots + 302 ≤ s2) (hc2 : c2 ≤ 601024) (hs2 : s2 ≤ 7292999) (hin1 : vp_in (i + 1) Ln) (hin2 : vp_in (i + 2) Ln) (hin3 : vp_in (i + 3) Ln) (kend : ∀ (V2 : zV) (n2 : Nat) (lv : List (Nat × Value)), lv.filter (fun z => z.1 < 5) = [(0, .ref b), (1, .ref q), (2, .ref m), (3, .ref o), (4, .int i)] → Inv V2 n2 q m o → gZ x (fun q => sz ≤ q) Q 8 c2 s2 V2 n2 1612 lv []) : gZ x (fun q => sz ≤ q) Q 8 cells slots V n 424 [(0, .ref b), (1, .ref q), (2, .ref m), (3, .ref o), (4, .int i)] [] := by
  have hc : cells + 1 ≤ 601024 := by omega
  have hs : slots + 6 ≤ 7292999 := by omega
  obtain ⟨⟨fs, hq⟩, w1, hB, ht, ho, hx, hk⟩ := hstep ((xs (i + 1).toNatClampNeg)) V n q m o hInv
  refine g_aload_n C 1 dL_424 rfl rfl ?_
  refine g_aload_n C 0 dL_425 rfl rfl ?_
  refine g_iload C 4 dL_426 rfl ?_
  refine g_iconst (v := 1) C dL_428 (by decide) ?_
  refine g_iadd C dL_429 ?_
  refine g_sld C S hin1 dL_430 ?_
  refine g_aload_n C 3 dL_431 rfl rfl ?_
  refine g_callH C hNN [.ref q, .int (xs (i + 1).toNatClampNeg), .ref o] cs_W_126 cw_W_turn (fun l D dA hl => hW_turn hl hB hq ht ho hx) (by decide) (by decide) rfl rfl (Nat.zero_le _) dL_432 hc hs (fun k V1 n1 hP9 => ?_)
  obtain ⟨⟨fs1, hm1⟩, r, V2, n2, hR, ⟨fs2, hm2⟩, hT, hInv, f, ⟨N, hO1, hO2⟩, hf⟩ := hk k V1 n1 hP9
  refine g_widen (c2 := c2) (s2 := s2) (by omega) (by omega) ?_
  refine g_istore (lv' := [(5, .int k), (0, .ref b), (1, .ref q), (2, .ref m), (3, .ref o), (4, .int i)]) C dL_435 (by decide) rfl ?_
  refine g_aload_n C 3 dL_437 rfl rfl ?_
  refine g_aload_n C 1 dL_438 rfl rfl ?_
  refine g_iload C 5 dL_439 rfl ?_
  refine g_iconst (v := 1) C dL_441 (by decide) ?_
  refine g_iadd C dL_442 ?_
  refine g_sld C S hin1 dL_443 ?_
  have hMM := fun (l : Launch) (D : va_G) (dA : Nat → ClassId) (hl : l.stackTraces = false) => mR_turn (l := l) (D := D) (dA := dA) hl hR
  refine g_core (w1 := (.inl (some (.int r)), V2, n2)) C (g_runV (mc1 := 0) (ms1 := 0) (As := [.int (xs (i + 1).toNatClampNeg)]) C cv_W_128 hm1 rfl hMM (by decide) (by decide) rfl rfl (Nat.zero_le _) dL_444 (by omega) (by omega)) (fun v hv => ?_) (fun E n9 hE => by cases hE)
  cases hv
  show gZ x _ _ 8 _ _ V2 n2 _ _ [.int r]
  refine g_istore (lv' := [(6, .int r), (5, .int k), (0, .ref b), (1, .ref q), (2, .ref m), (3, .ref o), (4, .int i)]) C dL_447 (by decide) rfl ?_
  refine g_aload_n C 4 dL_449 rfl rfl ?_
  have hMM := fun (l : Launch) (D : va_G) (dA : Nat → ClassId) (hl : l.stackTraces = false) => mR_thrown (l := l) (D := D) (dA := dA) hl hT
  refine g_core (w1 := (.inl (some (.int k)), V2, n2)) C (g_runV (mc1 := 0) (ms1 := 0) (As := []) C cv_W_109 hm2 rfl hMM (by decide) (by decide) rfl rfl (Nat.zero_le _) dL_450 (by omega) (by omega)) (fun v hv => ?_) (fun E n9 hE => by cases hE)
  cases hv
  show gZ x _ _ 8 _ _ V2 n2 _ _ [.int k]
  refine g_iload C 1 dL_453 rfl ?_
  refine g_icmp_eq C 460 dL_455 (by decide) (fun _ => ?_) (fun h9 => absurd rfl h9)
  refine g_iload C 1 dL_460 rfl ?_
  refine g_if_ne C 477 dL_462 (by decide) (fun _ => ?_) (fun hz => ?_)
  · refine g_goto C 1612 dL_477 (by decide) ?_
    exact kend V2 n2 [(6, .int r), (5, .int k), (0, .ref b), (1, .ref q), (2, .ref m), (3, .ref o), (4, .int i)] rfl hInv
  · refine g_aload_n C 5 dL_465 rfl rfl ?_
    refine g_iconst (v := 0) C dL_466 (by decide) ?_
    refine g_lald C hO1 (h_in0 hO2) dL_467 ?_
    refine g_iload C 0 dL_468 rfl ?_
    refine g_i2l C dL_470 ?_
    refine g_lcmp C dL_471 ?_
    refine g_if_eq C 477 dL_472 (by decide) (fun _ => ?_) (fun h9 => absurd ((lg_cmp_eq _ _).mpr (hf hz)) h9)
    refine g_goto C 1612 dL_477 (by decide) ?_
    exact kend V2 n2 [(6, .int r), (5, .int k), (0, .ref b), (1, .ref q), (2, .ref m), (3, .ref o), (4, .int i)] rfl hInv
set_option maxHeartbeats 4000000 in
set_option maxRecDepth 100000 in
theorem law_5 {x : gX} {Inv : LI} {b Ln : Nat} {xs : Nat → Int32} {sz : Nat} {Q : State → Prop} (C : gC x (fun q => sz ≤ q) code "BarrierMarksLaw" 8 12 444 601024 7292999) (S : gS x (fun q => sz ≤ q) b Ln xs) (hNN : match x with | (_, _, _, _, s, _, _, _, _, _, _, _) => hN s) (hstep : ∀ (a0 : Int64) (a1 : Int32), LInt Inv (fun V n q => fB_play V n q a0 a1) (fun V n m => fR_play V n m a0 a1) [("java/lang/IllegalArgumentException", 1)]) {V : zV} {n q m o : Nat} (hInv : Inv V n q m o) {i : Int32} {cells slots c2 s2 : Nat} (hc8 : cells + 8 ≤ c2) (hs8 : slots + 302 ≤ s2) (hc2 : c2 ≤ 601024) (hs2 : s2 ≤ 7292999) (hin1 : vp_in (i + 1) Ln) (hin2 : vp_in (i + 2) Ln) (hin3 : vp_in (i + 3) Ln) (kend : ∀ (V2 : zV) (n2 : Nat) (lv : List (Nat × Value)), lv.filter (fun z => z.1 < 5) = [(0, .ref b), (1, .ref q), (2, .ref m), (3, .ref o), (4, .int i)] → Inv V2 n2 q m o → gZ x (fun q => sz ≤ q) Q 8 c2 s2 V2 n2 1612 lv []) : gZ x (fun q => sz ≤ q) Q 8 cells slots V n 480 [(0, .ref b), (1, .ref q), (2, .ref m), (3, .ref o), (4, .int i)] [] := by
  have hc : cells + 1 ≤ 601024 := by omega
  have hs : slots + 6 ≤ 7292999 := by omega
  obtain ⟨⟨fs, hq⟩, w1, hB, ht, ho, hx, hk⟩ := hstep ((((xs (i + 1).toNatClampNeg).toInt64 <<< ((32 : Int32).toInt64 &&& 63)) ||| ((xs (i + 2).toNatClampNeg).toInt64 &&& 4294967295))) ((xs (i + 3).toNatClampNeg)) V n q m o hInv
  refine g_aload_n C 1 dL_480 rfl rfl ?_
  refine g_aload_n C 0 dL_481 rfl rfl ?_
  refine g_iload C 4 dL_482 rfl ?_
  refine g_iconst (v := 1) C dL_484 (by decide) ?_
  refine g_iadd C dL_485 ?_
  refine g_sld C S hin1 dL_486 ?_
  refine g_i2l C dL_487 ?_
  refine g_bipush (v := 32) C dL_488 (by decide) ?_
  refine g_lshl C dL_490 rfl ?_
  refine g_aload_n C 0 dL_491 rfl rfl ?_
  refine g_iload C 4 dL_492 rfl ?_
  refine g_iconst (v := 2) C dL_494 (by decide) ?_
  refine g_iadd C dL_495 ?_
  refine g_sld C S hin2 dL_496 ?_
  refine g_i2l C dL_497 ?_
  refine g_ldc2 (v := 4294967295) C dL_498 kl_W_112 ?_
  refine g_land C dL_501 ?_
  refine g_lor C dL_502 ?_
  refine g_aload_n C 0 dL_503 rfl rfl ?_
  refine g_iload C 4 dL_504 rfl ?_
  refine g_iconst (v := 3) C dL_506 (by decide) ?_
  refine g_iadd C dL_507 ?_
  refine g_sld C S hin3 dL_508 ?_
  refine g_aload_n C 3 dL_509 rfl rfl ?_
  refine g_callH C hNN [.ref q, .long (((xs (i + 1).toNatClampNeg).toInt64 <<< ((32 : Int32).toInt64 &&& 63)) ||| ((xs (i + 2).toNatClampNeg).toInt64 &&& 4294967295)), .int (xs (i + 3).toNatClampNeg), .ref o] cs_W_129 cw_W_play (fun l D dA hl => hW_play hl hB hq ht ho hx) (by decide) (by decide) rfl rfl (Nat.zero_le _) dL_510 hc hs (fun k V1 n1 hP9 => ?_)
  obtain ⟨⟨fs1, hm1⟩, r, V2, n2, hR, ⟨fs2, hm2⟩, hT, hInv, f, ⟨N, hO1, hO2⟩, hf⟩ := hk k V1 n1 hP9
  refine g_widen (c2 := c2) (s2 := s2) (by omega) (by omega) ?_
  refine g_istore (lv' := [(5, .int k), (0, .ref b), (1, .ref q), (2, .ref m), (3, .ref o), (4, .int i)]) C dL_513 (by decide) rfl ?_
  refine g_aload_n C 3 dL_515 rfl rfl ?_
  refine g_aload_n C 1 dL_516 rfl rfl ?_
  refine g_iload C 5 dL_517 rfl ?_
  refine g_iconst (v := 1) C dL_519 (by decide) ?_
  refine g_iadd C dL_520 ?_
  refine g_sld C S hin1 dL_521 ?_
  refine g_i2l C dL_522 ?_
  refine g_bipush (v := 32) C dL_523 (by decide) ?_
  refine g_lshl C dL_525 rfl ?_
  refine g_aload_n C 1 dL_526 rfl rfl ?_
  refine g_iload C 5 dL_527 rfl ?_
  refine g_iconst (v := 2) C dL_529 (by decide) ?_
  refine g_iadd C dL_530 ?_
  refine g_sld C S hin2 dL_531 ?_
  refine g_i2l C dL_532 ?_
  refine g_ldc2 (v := 4294967295) C dL_533 kl_W_112 ?_
  refine g_land C dL_536 ?_
  refine g_lor C dL_537 ?_
  refine g_aload_n C 1 dL_538 rfl rfl ?_
  refine g_iload C 5 dL_539 rfl ?_
  refine g_iconst (v := 3) C dL_541 (by decide) ?_
  refine g_iadd C dL_542 ?_
  refine g_sld C S hin3 dL_543 ?_
  have hMM := fun (l : Launch) (D : va_G) (dA : Nat → ClassId) (hl : l.stackTraces = false) => mR_play (l := l) (D := D) (dA := dA) hl hR
  refine g_core (w1 := (.inl (some (.int r)), V2, n2)) C (g_runV (mc1 := 0) (ms1 := 0) (As := [.long (((xs (i + 1).toNatClampNeg).toInt64 <<< ((32 : Int32).toInt64 &&& 63)) ||| ((xs (i + 2).toNatClampNeg).toInt64 &&& 4294967295)), .int (xs (i + 3).toNatClampNeg)]) C cv_W_132 hm1 rfl hMM (by decide) (by decide) rfl rfl (Nat.zero_le _) dL_544 (by omega) (by omega)) (fun v hv => ?_) (fun E n9 hE => by cases hE)
  cases hv
  show gZ x _ _ 8 _ _ V2 n2 _ _ [.int r]
  refine g_istore (lv' := [(6, .int r), (5, .int k), (0, .ref b), (1, .ref q), (2, .ref m), (3, .ref o), (4, .int i)]) C dL_547 (by decide) rfl ?_
  refine g_aload_n C 4 dL_549 rfl rfl ?_
  have hMM := fun (l : Launch) (D : va_G) (dA : Nat → ClassId) (hl : l.stackTraces = false) => mR_thrown (l := l) (D := D) (dA := dA) hl hT
  refine g_core (w1 := (.inl (some (.int k)), V2, n2)) C (g_runV (mc1 := 0) (ms1 := 0) (As := []) C cv_W_109 hm2 rfl hMM (by decide) (by decide) rfl rfl (Nat.zero_le _) dL_550 (by omega) (by omega)) (fun v hv => ?_) (fun E n9 hE => by cases hE)
  cases hv
  show gZ x _ _ 8 _ _ V2 n2 _ _ [.int k]
  refine g_iload C 1 dL_553 rfl ?_
  refine g_icmp_eq C 560 dL_555 (by decide) (fun _ => ?_) (fun h9 => absurd rfl h9)
  refine g_iload C 1 dL_560 rfl ?_
  refine g_if_ne C 577 dL_562 (by decide) (fun _ => ?_) (fun hz => ?_)
  · refine g_goto C 1612 dL_577 (by decide) ?_
    exact kend V2 n2 [(6, .int r), (5, .int k), (0, .ref b), (1, .ref q), (2, .ref m), (3, .ref o), (4, .int i)] rfl hInv
  · refine g_aload_n C 5 dL_565 rfl rfl ?_
    refine g_iconst (v := 0) C dL_566 (by decide) ?_
    refine g_lald C hO1 (h_in0 hO2) dL_567 ?_
    refine g_iload C 0 dL_568 rfl ?_
    refine g_i2l C dL_570 ?_
    refine g_lcmp C dL_571 ?_
    refine g_if_eq C 577 dL_572 (by decide) (fun _ => ?_) (fun h9 => absurd ((lg_cmp_eq _ _).mpr (hf hz)) h9)
    refine g_goto C 1612 dL_577 (by decide) ?_
    exact kend V2 n2 [(6, .int r), (5, .int k), (0, .ref b), (1, .ref q), (2, .ref m), (3, .ref o), (4, .int i)] rfl hInv
set_option maxHeartbeats 4000000 in
set_option maxRecDepth 100000 in
theorem law_6 {x : gX} {Inv : LI} {b Ln : Nat} {xs : Nat → Int32} {sz : Nat} {Q : State → Prop} (C : gC x (fun q => sz ≤ q) code "BarrierMarksLaw" 8 12 444 601024 7292999) (S : gS x (fun q => sz ≤ q) b Ln xs) (hNN : match x with | (_, _, _, _, s, _, _, _, _, _, _, _) => hN s) (hstep : ∀ (a0 : Int32), LInt Inv (fun V n q => fB_giveUp V n q a0) (fun V n m => fR_giveUp V n m a0) [("java/lang/IndexOutOfBoundsException", 1), ("java/lang/IllegalStateException", 2)]) {V : zV} {n q m o : Nat} (hInv : Inv V n q m o) {i : Int32} {cells slots c2 s2 : Nat} (hc8 : cells + 8 ≤ c2) (hs8 : slots + 302 ≤ s2) (hc2 : c2 ≤ 601024) (hs2 : s2 ≤ 7292999) (hin1 : vp_in (i + 1) Ln) (hin2 : vp_in (i + 2) Ln) (hin3 : vp_in (i + 3) Ln) (kend : ∀ (V2 : zV) (n2 : Nat) (lv : List (Nat × Value)), lv.filter (fun z => z.1 < 5) = [(0, .ref b), (1, .ref q), (2, .ref m), (3, .ref o), (4, .int i)] → Inv V2 n2 q m o → gZ x (fun q => sz ≤ q) Q 8 c2 s2 V2 n2 1612 lv []) : gZ x (fun q => sz ≤ q) Q 8 cells slots V n 580 [(0, .ref b), (1, .ref q), (2, .ref m), (3, .ref o), (4, .int i)] [] := by
  have hc : cells + 1 ≤ 601024 := by omega
  have hs : slots + 6 ≤ 7292999 := by omega
  obtain ⟨⟨fs, hq⟩, w1, hB, ht, ho, hx, hk⟩ := hstep ((xs (i + 1).toNatClampNeg)) V n q m o hInv
  refine g_aload_n C 1 dL_580 rfl rfl ?_
  refine g_aload_n C 0 dL_581 rfl rfl ?_
  refine g_iload C 4 dL_582 rfl ?_
  refine g_iconst (v := 1) C dL_584 (by decide) ?_
  refine g_iadd C dL_585 ?_
  refine g_sld C S hin1 dL_586 ?_
  refine g_aload_n C 3 dL_587 rfl rfl ?_
  refine g_callH C hNN [.ref q, .int (xs (i + 1).toNatClampNeg), .ref o] cs_W_133 cw_W_giveUp (fun l D dA hl => hW_giveUp hl hB hq ht ho hx) (by decide) (by decide) rfl rfl (Nat.zero_le _) dL_588 hc hs (fun k V1 n1 hP9 => ?_)
  obtain ⟨⟨fs1, hm1⟩, r, V2, n2, hR, ⟨fs2, hm2⟩, hT, hInv, f, ⟨N, hO1, hO2⟩, hf⟩ := hk k V1 n1 hP9
  refine g_widen (c2 := c2) (s2 := s2) (by omega) (by omega) ?_
  refine g_istore (lv' := [(5, .int k), (0, .ref b), (1, .ref q), (2, .ref m), (3, .ref o), (4, .int i)]) C dL_591 (by decide) rfl ?_
  refine g_aload_n C 3 dL_593 rfl rfl ?_
  refine g_aload_n C 1 dL_594 rfl rfl ?_
  refine g_iload C 5 dL_595 rfl ?_
  refine g_iconst (v := 1) C dL_597 (by decide) ?_
  refine g_iadd C dL_598 ?_
  refine g_sld C S hin1 dL_599 ?_
  have hMM := fun (l : Launch) (D : va_G) (dA : Nat → ClassId) (hl : l.stackTraces = false) => mR_giveUp (l := l) (D := D) (dA := dA) hl hR
  refine g_core (w1 := (.inl (some (.int r)), V2, n2)) C (g_runV (mc1 := 0) (ms1 := 0) (As := [.int (xs (i + 1).toNatClampNeg)]) C cv_W_135 hm1 rfl hMM (by decide) (by decide) rfl rfl (Nat.zero_le _) dL_600 (by omega) (by omega)) (fun v hv => ?_) (fun E n9 hE => by cases hE)
  cases hv
  show gZ x _ _ 8 _ _ V2 n2 _ _ [.int r]
  refine g_istore (lv' := [(6, .int r), (5, .int k), (0, .ref b), (1, .ref q), (2, .ref m), (3, .ref o), (4, .int i)]) C dL_603 (by decide) rfl ?_
  refine g_aload_n C 4 dL_605 rfl rfl ?_
  have hMM := fun (l : Launch) (D : va_G) (dA : Nat → ClassId) (hl : l.stackTraces = false) => mR_thrown (l := l) (D := D) (dA := dA) hl hT
  refine g_core (w1 := (.inl (some (.int k)), V2, n2)) C (g_runV (mc1 := 0) (ms1 := 0) (As := []) C cv_W_109 hm2 rfl hMM (by decide) (by decide) rfl rfl (Nat.zero_le _) dL_606 (by omega) (by omega)) (fun v hv => ?_) (fun E n9 hE => by cases hE)
  cases hv
  show gZ x _ _ 8 _ _ V2 n2 _ _ [.int k]
  refine g_iload C 1 dL_609 rfl ?_
  refine g_icmp_eq C 616 dL_611 (by decide) (fun _ => ?_) (fun h9 => absurd rfl h9)
  refine g_iload C 1 dL_616 rfl ?_
  refine g_if_ne C 633 dL_618 (by decide) (fun _ => ?_) (fun hz => ?_)
  · refine g_goto C 1612 dL_633 (by decide) ?_
    exact kend V2 n2 [(6, .int r), (5, .int k), (0, .ref b), (1, .ref q), (2, .ref m), (3, .ref o), (4, .int i)] rfl hInv
  · refine g_aload_n C 5 dL_621 rfl rfl ?_
    refine g_iconst (v := 0) C dL_622 (by decide) ?_
    refine g_lald C hO1 (h_in0 hO2) dL_623 ?_
    refine g_iload C 0 dL_624 rfl ?_
    refine g_i2l C dL_626 ?_
    refine g_lcmp C dL_627 ?_
    refine g_if_eq C 633 dL_628 (by decide) (fun _ => ?_) (fun h9 => absurd ((lg_cmp_eq _ _).mpr (hf hz)) h9)
    refine g_goto C 1612 dL_633 (by decide) ?_
    exact kend V2 n2 [(6, .int r), (5, .int k), (0, .ref b), (1, .ref q), (2, .ref m), (3, .ref o), (4, .int i)] rfl hInv
set_option maxHeartbeats 4000000 in
set_option maxRecDepth 100000 in
theorem law_7 {x : gX} {Inv : LI} {b Ln : Nat} {xs : Nat → Int32} {sz : Nat} {Q : State → Prop} (C : gC x (fun q => sz ≤ q) code "BarrierMarksLaw" 8 12 444 601024 7292999) (S : gS x (fun q => sz ≤ q) b Ln xs) (hNN : match x with | (_, _, _, _, s, _, _, _, _, _, _, _) => hN s) (hstep : ∀ (a0 : Int32) (a1 : Int32), LVoid Inv (fun V n q => fB_fails V n q a0 a1) (fun V n m => fR_fails V n m a0 a1) [("java/lang/IndexOutOfBoundsException", 1), ("java/lang/IllegalStateException", 2)]) {V : zV} {n q m o : Nat} (hInv : Inv V n q m o) {i : Int32} {cells slots c2 s2 : Nat} (hc8 : cells + 8 ≤ c2) (hs8 : slots + 302 ≤ s2) (hc2 : c2 ≤ 601024) (hs2 : s2 ≤ 7292999) (hin1 : vp_in (i + 1) Ln) (hin2 : vp_in (i + 2) Ln) (hin3 : vp_in (i + 3) Ln) (kend : ∀ (V2 : zV) (n2 : Nat) (lv : List (Nat × Value)), lv.filter (fun z => z.1 < 5) = [(0, .ref b), (1, .ref q), (2, .ref m), (3, .ref o), (4, .int i)] → Inv V2 n2 q m o → gZ x (fun q => sz ≤ q) Q 8 c2 s2 V2 n2 1612 lv []) : gZ x (fun q => sz ≤ q) Q 8 cells slots V n 636 [(0, .ref b), (1, .ref q), (2, .ref m), (3, .ref o), (4, .int i)] [] := by
  have hc : cells + 1 ≤ 601024 := by omega
  have hs : slots + 6 ≤ 7292999 := by omega
  obtain ⟨⟨fs, hq⟩, w1, hB, ht, hx, hk⟩ := hstep ((xs (i + 1).toNatClampNeg)) ((xs (i + 2).toNatClampNeg)) V n q m o hInv
  refine g_aload_n C 1 dL_636 rfl rfl ?_
  refine g_aload_n C 0 dL_637 rfl rfl ?_
  refine g_iload C 4 dL_638 rfl ?_
  refine g_iconst (v := 1) C dL_640 (by decide) ?_
  refine g_iadd C dL_641 ?_
  refine g_sld C S hin1 dL_642 ?_
  refine g_aload_n C 0 dL_643 rfl rfl ?_
  refine g_iload C 4 dL_644 rfl ?_
  refine g_iconst (v := 2) C dL_646 (by decide) ?_
  refine g_iadd C dL_647 ?_
  refine g_sld C S hin2 dL_648 ?_
  refine g_callH C hNN [.ref q, .int (xs (i + 1).toNatClampNeg), .int (xs (i + 2).toNatClampNeg)] cs_W_136 cw_W_fails (fun l D dA hl => hW_fails hl hB hq ht hx) (by decide) (by decide) rfl rfl (Nat.zero_le _) dL_649 hc hs (fun k V1 n1 hP9 => ?_)
  obtain ⟨⟨fs1, hm1⟩, V2, n2, hR, ⟨fs2, hm2⟩, hT, hInv⟩ := hk k V1 n1 hP9
  refine g_widen (c2 := c2) (s2 := s2) (by omega) (by omega) ?_
  refine g_istore (lv' := [(5, .int k), (0, .ref b), (1, .ref q), (2, .ref m), (3, .ref o), (4, .int i)]) C dL_652 (by decide) rfl ?_
  refine g_aload_n C 3 dL_654 rfl rfl ?_
  refine g_aload_n C 1 dL_655 rfl rfl ?_
  refine g_iload C 5 dL_656 rfl ?_
  refine g_iconst (v := 1) C dL_658 (by decide) ?_
  refine g_iadd C dL_659 ?_
  refine g_sld C S hin1 dL_660 ?_
  refine g_aload_n C 1 dL_661 rfl rfl ?_
  refine g_iload C 5 dL_662 rfl ?_
  refine g_iconst (v := 2) C dL_664 (by decide) ?_
  refine g_iadd C dL_665 ?_
  refine g_sld C S hin2 dL_666 ?_
  have hMM := fun (l : Launch) (D : va_G) (dA : Nat → ClassId) (hl : l.stackTraces = false) => mR_fails (l := l) (D := D) (dA := dA) hl hR
  refine g_core (w1 := (.inl (none), V2, n2)) C (g_runV (mc1 := 0) (ms1 := 0) (As := [.int (xs (i + 1).toNatClampNeg), .int (xs (i + 2).toNatClampNeg)]) C cv_W_139 hm1 rfl hMM (by decide) (by decide) rfl rfl (Nat.zero_le _) dL_667 (by omega) (by omega)) (fun v hv => ?_) (fun E n9 hE => by cases hE)
  cases hv
  show gZ x _ _ 8 _ _ V2 n2 _ _ []
  refine g_aload_n C 3 dL_670 rfl rfl ?_
  have hMM := fun (l : Launch) (D : va_G) (dA : Nat → ClassId) (hl : l.stackTraces = false) => mR_thrown (l := l) (D := D) (dA := dA) hl hT
  refine g_core (w1 := (.inl (some (.int k)), V2, n2)) C (g_runV (mc1 := 0) (ms1 := 0) (As := []) C cv_W_109 hm2 rfl hMM (by decide) (by decide) rfl rfl (Nat.zero_le _) dL_671 (by omega) (by omega)) (fun v hv => ?_) (fun E n9 hE => by cases hE)
  cases hv
  show gZ x _ _ 8 _ _ V2 n2 _ _ [.int k]
  refine g_iload C 0 dL_674 rfl ?_
  refine g_icmp_eq C 681 dL_676 (by decide) (fun _ => ?_) (fun h9 => absurd rfl h9)
  refine g_goto C 1612 dL_681 (by decide) ?_
  exact kend V2 n2 [(5, .int k), (0, .ref b), (1, .ref q), (2, .ref m), (3, .ref o), (4, .int i)] rfl hInv
set_option maxHeartbeats 4000000 in
set_option maxRecDepth 100000 in
theorem law_8 {x : gX} {Inv : LI} {b Ln : Nat} {xs : Nat → Int32} {sz : Nat} {Q : State → Prop} (C : gC x (fun q => sz ≤ q) code "BarrierMarksLaw" 8 12 444 601024 7292999) (S : gS x (fun q => sz ≤ q) b Ln xs) (hNN : match x with | (_, _, _, _, s, _, _, _, _, _, _, _) => hN s) (hstep : ∀ (a0 : Int32) (a1 : Int32), LInt Inv (fun V n q => fB_again V n q a0 a1) (fun V n m => fR_again V n m a0 a1) [("java/lang/IndexOutOfBoundsException", 1), ("java/lang/IllegalStateException", 2)]) {V : zV} {n q m o : Nat} (hInv : Inv V n q m o) {i : Int32} {cells slots c2 s2 : Nat} (hc8 : cells + 8 ≤ c2) (hs8 : slots + 302 ≤ s2) (hc2 : c2 ≤ 601024) (hs2 : s2 ≤ 7292999) (hin1 : vp_in (i + 1) Ln) (hin2 : vp_in (i + 2) Ln) (hin3 : vp_in (i + 3) Ln) (kend : ∀ (V2 : zV) (n2 : Nat) (lv : List (Nat × Value)), lv.filter (fun z => z.1 < 5) = [(0, .ref b), (1, .ref q), (2, .ref m), (3, .ref o), (4, .int i)] → Inv V2 n2 q m o → gZ x (fun q => sz ≤ q) Q 8 c2 s2 V2 n2 1612 lv []) : gZ x (fun q => sz ≤ q) Q 8 cells slots V n 684 [(0, .ref b), (1, .ref q), (2, .ref m), (3, .ref o), (4, .int i)] [] := by
  have hc : cells + 1 ≤ 601024 := by omega
  have hs : slots + 6 ≤ 7292999 := by omega
  obtain ⟨⟨fs, hq⟩, w1, hB, ht, ho, hx, hk⟩ := hstep ((xs (i + 1).toNatClampNeg)) ((xs (i + 2).toNatClampNeg)) V n q m o hInv
  refine g_aload_n C 1 dL_684 rfl rfl ?_
  refine g_aload_n C 0 dL_685 rfl rfl ?_
  refine g_iload C 4 dL_686 rfl ?_
  refine g_iconst (v := 1) C dL_688 (by decide) ?_
  refine g_iadd C dL_689 ?_
  refine g_sld C S hin1 dL_690 ?_
  refine g_aload_n C 0 dL_691 rfl rfl ?_
  refine g_iload C 4 dL_692 rfl ?_
  refine g_iconst (v := 2) C dL_694 (by decide) ?_
  refine g_iadd C dL_695 ?_
  refine g_sld C S hin2 dL_696 ?_
  refine g_aload_n C 3 dL_697 rfl rfl ?_
  refine g_callH C hNN [.ref q, .int (xs (i + 1).toNatClampNeg), .int (xs (i + 2).toNatClampNeg), .ref o] cs_W_140 cw_W_again (fun l D dA hl => hW_again hl hB hq ht ho hx) (by decide) (by decide) rfl rfl (Nat.zero_le _) dL_698 hc hs (fun k V1 n1 hP9 => ?_)
  obtain ⟨⟨fs1, hm1⟩, r, V2, n2, hR, ⟨fs2, hm2⟩, hT, hInv, f, ⟨N, hO1, hO2⟩, hf⟩ := hk k V1 n1 hP9
  refine g_widen (c2 := c2) (s2 := s2) (by omega) (by omega) ?_
  refine g_istore (lv' := [(5, .int k), (0, .ref b), (1, .ref q), (2, .ref m), (3, .ref o), (4, .int i)]) C dL_701 (by decide) rfl ?_
  refine g_aload_n C 3 dL_703 rfl rfl ?_
  refine g_aload_n C 1 dL_704 rfl rfl ?_
  refine g_iload C 5 dL_705 rfl ?_
  refine g_iconst (v := 1) C dL_707 (by decide) ?_
  refine g_iadd C dL_708 ?_
  refine g_sld C S hin1 dL_709 ?_
  refine g_aload_n C 1 dL_710 rfl rfl ?_
  refine g_iload C 5 dL_711 rfl ?_
  refine g_iconst (v := 2) C dL_713 (by decide) ?_
  refine g_iadd C dL_714 ?_
  refine g_sld C S hin2 dL_715 ?_
  have hMM := fun (l : Launch) (D : va_G) (dA : Nat → ClassId) (hl : l.stackTraces = false) => mR_again (l := l) (D := D) (dA := dA) hl hR
  refine g_core (w1 := (.inl (some (.int r)), V2, n2)) C (g_runV (mc1 := 0) (ms1 := 0) (As := [.int (xs (i + 1).toNatClampNeg), .int (xs (i + 2).toNatClampNeg)]) C cv_W_142 hm1 rfl hMM (by decide) (by decide) rfl rfl (Nat.zero_le _) dL_716 (by omega) (by omega)) (fun v hv => ?_) (fun E n9 hE => by cases hE)
  cases hv
  show gZ x _ _ 8 _ _ V2 n2 _ _ [.int r]
  refine g_istore (lv' := [(6, .int r), (5, .int k), (0, .ref b), (1, .ref q), (2, .ref m), (3, .ref o), (4, .int i)]) C dL_719 (by decide) rfl ?_
  refine g_aload_n C 4 dL_721 rfl rfl ?_
  have hMM := fun (l : Launch) (D : va_G) (dA : Nat → ClassId) (hl : l.stackTraces = false) => mR_thrown (l := l) (D := D) (dA := dA) hl hT
  refine g_core (w1 := (.inl (some (.int k)), V2, n2)) C (g_runV (mc1 := 0) (ms1 := 0) (As := []) C cv_W_109 hm2 rfl hMM (by decide) (by decide) rfl rfl (Nat.zero_le _) dL_722 (by omega) (by omega)) (fun v hv => ?_) (fun E n9 hE => by cases hE)
  cases hv
  show gZ x _ _ 8 _ _ V2 n2 _ _ [.int k]
  refine g_iload C 1 dL_725 rfl ?_
  refine g_icmp_eq C 732 dL_727 (by decide) (fun _ => ?_) (fun h9 => absurd rfl h9)
  refine g_iload C 1 dL_732 rfl ?_
  refine g_if_ne C 749 dL_734 (by decide) (fun _ => ?_) (fun hz => ?_)
  · refine g_goto C 1612 dL_749 (by decide) ?_
    exact kend V2 n2 [(6, .int r), (5, .int k), (0, .ref b), (1, .ref q), (2, .ref m), (3, .ref o), (4, .int i)] rfl hInv
  · refine g_aload_n C 5 dL_737 rfl rfl ?_
    refine g_iconst (v := 0) C dL_738 (by decide) ?_
    refine g_lald C hO1 (h_in0 hO2) dL_739 ?_
    refine g_iload C 0 dL_740 rfl ?_
    refine g_i2l C dL_742 ?_
    refine g_lcmp C dL_743 ?_
    refine g_if_eq C 749 dL_744 (by decide) (fun _ => ?_) (fun h9 => absurd ((lg_cmp_eq _ _).mpr (hf hz)) h9)
    refine g_goto C 1612 dL_749 (by decide) ?_
    exact kend V2 n2 [(6, .int r), (5, .int k), (0, .ref b), (1, .ref q), (2, .ref m), (3, .ref o), (4, .int i)] rfl hInv
set_option maxHeartbeats 4000000 in
set_option maxRecDepth 100000 in
theorem law_9 {x : gX} {Inv : LI} {b Ln : Nat} {xs : Nat → Int32} {sz : Nat} {Q : State → Prop} (C : gC x (fun q => sz ≤ q) code "BarrierMarksLaw" 8 12 444 601024 7292999) (S : gS x (fun q => sz ≤ q) b Ln xs) (hNN : match x with | (_, _, _, _, s, _, _, _, _, _, _, _) => hN s) (hstep : ∀ (a0 : Int32), LInt Inv (fun V n q => fB_restore V n q a0) (fun V n m => fR_restore V n m a0) [("java/lang/IndexOutOfBoundsException", 1), ("java/lang/IllegalStateException", 2)]) {V : zV} {n q m o : Nat} (hInv : Inv V n q m o) {i : Int32} {cells slots c2 s2 : Nat} (hc8 : cells + 8 ≤ c2) (hs8 : slots + 302 ≤ s2) (hc2 : c2 ≤ 601024) (hs2 : s2 ≤ 7292999) (hin1 : vp_in (i + 1) Ln) (hin2 : vp_in (i + 2) Ln) (hin3 : vp_in (i + 3) Ln) (kend : ∀ (V2 : zV) (n2 : Nat) (lv : List (Nat × Value)), lv.filter (fun z => z.1 < 5) = [(0, .ref b), (1, .ref q), (2, .ref m), (3, .ref o), (4, .int i)] → Inv V2 n2 q m o → gZ x (fun q => sz ≤ q) Q 8 c2 s2 V2 n2 1612 lv []) : gZ x (fun q => sz ≤ q) Q 8 cells slots V n 752 [(0, .ref b), (1, .ref q), (2, .ref m), (3, .ref o), (4, .int i)] [] := by
  have hc : cells + 1 ≤ 601024 := by omega
  have hs : slots + 6 ≤ 7292999 := by omega
  obtain ⟨⟨fs, hq⟩, w1, hB, ht, ho, hx, hk⟩ := hstep ((xs (i + 1).toNatClampNeg)) V n q m o hInv
  refine g_aload_n C 1 dL_752 rfl rfl ?_
  refine g_aload_n C 0 dL_753 rfl rfl ?_
  refine g_iload C 4 dL_754 rfl ?_
  refine g_iconst (v := 1) C dL_756 (by decide) ?_
  refine g_iadd C dL_757 ?_
  refine g_sld C S hin1 dL_758 ?_
  refine g_aload_n C 3 dL_759 rfl rfl ?_
  refine g_callH C hNN [.ref q, .int (xs (i + 1).toNatClampNeg), .ref o] cs_W_143 cw_W_restore (fun l D dA hl => hW_restore hl hB hq ht ho hx) (by decide) (by decide) rfl rfl (Nat.zero_le _) dL_760 hc hs (fun k V1 n1 hP9 => ?_)
  obtain ⟨⟨fs1, hm1⟩, r, V2, n2, hR, ⟨fs2, hm2⟩, hT, hInv, f, ⟨N, hO1, hO2⟩, hf⟩ := hk k V1 n1 hP9
  refine g_widen (c2 := c2) (s2 := s2) (by omega) (by omega) ?_
  refine g_istore (lv' := [(5, .int k), (0, .ref b), (1, .ref q), (2, .ref m), (3, .ref o), (4, .int i)]) C dL_763 (by decide) rfl ?_
  refine g_aload_n C 3 dL_765 rfl rfl ?_
  refine g_aload_n C 1 dL_766 rfl rfl ?_
  refine g_iload C 5 dL_767 rfl ?_
  refine g_iconst (v := 1) C dL_769 (by decide) ?_
  refine g_iadd C dL_770 ?_
  refine g_sld C S hin1 dL_771 ?_
  have hMM := fun (l : Launch) (D : va_G) (dA : Nat → ClassId) (hl : l.stackTraces = false) => mR_restore (l := l) (D := D) (dA := dA) hl hR
  refine g_core (w1 := (.inl (some (.int r)), V2, n2)) C (g_runV (mc1 := 0) (ms1 := 0) (As := [.int (xs (i + 1).toNatClampNeg)]) C cv_W_145 hm1 rfl hMM (by decide) (by decide) rfl rfl (Nat.zero_le _) dL_772 (by omega) (by omega)) (fun v hv => ?_) (fun E n9 hE => by cases hE)
  cases hv
  show gZ x _ _ 8 _ _ V2 n2 _ _ [.int r]
  refine g_istore (lv' := [(6, .int r), (5, .int k), (0, .ref b), (1, .ref q), (2, .ref m), (3, .ref o), (4, .int i)]) C dL_775 (by decide) rfl ?_
  refine g_aload_n C 4 dL_777 rfl rfl ?_
  have hMM := fun (l : Launch) (D : va_G) (dA : Nat → ClassId) (hl : l.stackTraces = false) => mR_thrown (l := l) (D := D) (dA := dA) hl hT
  refine g_core (w1 := (.inl (some (.int k)), V2, n2)) C (g_runV (mc1 := 0) (ms1 := 0) (As := []) C cv_W_109 hm2 rfl hMM (by decide) (by decide) rfl rfl (Nat.zero_le _) dL_778 (by omega) (by omega)) (fun v hv => ?_) (fun E n9 hE => by cases hE)
  cases hv
  show gZ x _ _ 8 _ _ V2 n2 _ _ [.int k]
  refine g_iload C 1 dL_781 rfl ?_
  refine g_icmp_eq C 788 dL_783 (by decide) (fun _ => ?_) (fun h9 => absurd rfl h9)
  refine g_iload C 1 dL_788 rfl ?_
  refine g_if_ne C 805 dL_790 (by decide) (fun _ => ?_) (fun hz => ?_)
  · refine g_goto C 1612 dL_805 (by decide) ?_
    exact kend V2 n2 [(6, .int r), (5, .int k), (0, .ref b), (1, .ref q), (2, .ref m), (3, .ref o), (4, .int i)] rfl hInv
  · refine g_aload_n C 5 dL_793 rfl rfl ?_
    refine g_iconst (v := 0) C dL_794 (by decide) ?_
    refine g_lald C hO1 (h_in0 hO2) dL_795 ?_
    refine g_iload C 0 dL_796 rfl ?_
    refine g_i2l C dL_798 ?_
    refine g_lcmp C dL_799 ?_
    refine g_if_eq C 805 dL_800 (by decide) (fun _ => ?_) (fun h9 => absurd ((lg_cmp_eq _ _).mpr (hf hz)) h9)
    refine g_goto C 1612 dL_805 (by decide) ?_
    exact kend V2 n2 [(6, .int r), (5, .int k), (0, .ref b), (1, .ref q), (2, .ref m), (3, .ref o), (4, .int i)] rfl hInv
set_option maxHeartbeats 4000000 in
set_option maxRecDepth 100000 in
theorem law_10 {x : gX} {Inv : LI} {b Ln : Nat} {xs : Nat → Int32} {sz : Nat} {Q : State → Prop} (C : gC x (fun q => sz ≤ q) code "BarrierMarksLaw" 8 12 444 601024 7292999) (S : gS x (fun q => sz ≤ q) b Ln xs) (hNN : match x with | (_, _, _, _, s, _, _, _, _, _, _, _) => hN s) (hstep : ∀ (a0 : Int32), LLong Inv (fun V n q => fB_state V n q a0) (fun V n m => fR_state V n m a0) [("java/lang/IndexOutOfBoundsException", 1)]) {V : zV} {n q m o : Nat} (hInv : Inv V n q m o) {i : Int32} {cells slots c2 s2 : Nat} (hc8 : cells + 8 ≤ c2) (hs8 : slots + 302 ≤ s2) (hc2 : c2 ≤ 601024) (hs2 : s2 ≤ 7292999) (hin1 : vp_in (i + 1) Ln) (hin2 : vp_in (i + 2) Ln) (hin3 : vp_in (i + 3) Ln) (kend : ∀ (V2 : zV) (n2 : Nat) (lv : List (Nat × Value)), lv.filter (fun z => z.1 < 5) = [(0, .ref b), (1, .ref q), (2, .ref m), (3, .ref o), (4, .int i)] → Inv V2 n2 q m o → gZ x (fun q => sz ≤ q) Q 8 c2 s2 V2 n2 1612 lv []) : gZ x (fun q => sz ≤ q) Q 8 cells slots V n 808 [(0, .ref b), (1, .ref q), (2, .ref m), (3, .ref o), (4, .int i)] [] := by
  have hc : cells + 1 ≤ 601024 := by omega
  have hs : slots + 6 ≤ 7292999 := by omega
  obtain ⟨⟨fs, hq⟩, w1, hB, ht, ho, hx, hk⟩ := hstep ((xs (i + 1).toNatClampNeg)) V n q m o hInv
  refine g_aload_n C 1 dL_808 rfl rfl ?_
  refine g_aload_n C 0 dL_809 rfl rfl ?_
  refine g_iload C 4 dL_810 rfl ?_
  refine g_iconst (v := 1) C dL_812 (by decide) ?_
  refine g_iadd C dL_813 ?_
  refine g_sld C S hin1 dL_814 ?_
  refine g_aload_n C 3 dL_815 rfl rfl ?_
  refine g_callH C hNN [.ref q, .int (xs (i + 1).toNatClampNeg), .ref o] cs_W_146 cw_W_state (fun l D dA hl => hW_state hl hB hq ht ho hx) (by decide) (by decide) rfl rfl (Nat.zero_le _) dL_816 hc hs (fun k V1 n1 hP9 => ?_)
  obtain ⟨⟨fs1, hm1⟩, r, V2, n2, hR, ⟨fs2, hm2⟩, hT, hInv, f, ⟨N, hO1, hO2⟩, hf⟩ := hk k V1 n1 hP9
  refine g_widen (c2 := c2) (s2 := s2) (by omega) (by omega) ?_
  refine g_istore (lv' := [(5, .int k), (0, .ref b), (1, .ref q), (2, .ref m), (3, .ref o), (4, .int i)]) C dL_819 (by decide) rfl ?_
  refine g_aload_n C 3 dL_821 rfl rfl ?_
  refine g_aload_n C 1 dL_822 rfl rfl ?_
  refine g_iload C 5 dL_823 rfl ?_
  refine g_iconst (v := 1) C dL_825 (by decide) ?_
  refine g_iadd C dL_826 ?_
  refine g_sld C S hin1 dL_827 ?_
  have hMM := fun (l : Launch) (D : va_G) (dA : Nat → ClassId) (hl : l.stackTraces = false) => mR_state (l := l) (D := D) (dA := dA) hl hR
  refine g_core (w1 := (.inl (some (.long r)), V2, n2)) C (g_runV (mc1 := 0) (ms1 := 0) (As := [.int (xs (i + 1).toNatClampNeg)]) C cv_W_148 hm1 rfl hMM (by decide) (by decide) rfl rfl (Nat.zero_le _) dL_828 (by omega) (by omega)) (fun v hv => ?_) (fun E n9 hE => by cases hE)
  cases hv
  show gZ x _ _ 8 _ _ V2 n2 _ _ [.long r]
  refine g_lstore (lv' := [(6, .long r), (5, .int k), (0, .ref b), (1, .ref q), (2, .ref m), (3, .ref o), (4, .int i)]) C dL_831 (by decide) rfl ?_
  refine g_aload_n C 4 dL_833 rfl rfl ?_
  have hMM := fun (l : Launch) (D : va_G) (dA : Nat → ClassId) (hl : l.stackTraces = false) => mR_thrown (l := l) (D := D) (dA := dA) hl hT
  refine g_core (w1 := (.inl (some (.int k)), V2, n2)) C (g_runV (mc1 := 0) (ms1 := 0) (As := []) C cv_W_109 hm2 rfl hMM (by decide) (by decide) rfl rfl (Nat.zero_le _) dL_834 (by omega) (by omega)) (fun v hv => ?_) (fun E n9 hE => by cases hE)
  cases hv
  show gZ x _ _ 8 _ _ V2 n2 _ _ [.int k]
  refine g_iload C 1 dL_837 rfl ?_
  refine g_icmp_eq C 844 dL_839 (by decide) (fun _ => ?_) (fun h9 => absurd rfl h9)
  refine g_iload C 1 dL_844 rfl ?_
  refine g_if_ne C 860 dL_846 (by decide) (fun _ => ?_) (fun hz => ?_)
  · refine g_goto C 1612 dL_860 (by decide) ?_
    exact kend V2 n2 [(6, .long r), (5, .int k), (0, .ref b), (1, .ref q), (2, .ref m), (3, .ref o), (4, .int i)] rfl hInv
  · refine g_aload_n C 5 dL_849 rfl rfl ?_
    refine g_iconst (v := 0) C dL_850 (by decide) ?_
    refine g_lald C hO1 (h_in0 hO2) dL_851 ?_
    refine g_lload C 0 dL_852 rfl ?_
    refine g_lcmp C dL_854 ?_
    refine g_if_eq C 860 dL_855 (by decide) (fun _ => ?_) (fun h9 => absurd ((lg_cmp_eq _ _).mpr (hf hz)) h9)
    refine g_goto C 1612 dL_860 (by decide) ?_
    exact kend V2 n2 [(6, .long r), (5, .int k), (0, .ref b), (1, .ref q), (2, .ref m), (3, .ref o), (4, .int i)] rfl hInv
set_option maxHeartbeats 4000000 in
set_option maxRecDepth 100000 in
theorem law_11 {x : gX} {Inv : LI} {b Ln : Nat} {xs : Nat → Int32} {sz : Nat} {Q : State → Prop} (C : gC x (fun q => sz ≤ q) code "BarrierMarksLaw" 8 12 444 601024 7292999) (S : gS x (fun q => sz ≤ q) b Ln xs) (hNN : match x with | (_, _, _, _, s, _, _, _, _, _, _, _) => hN s) (hstep : ∀ (a0 : Int32) (a1 : Int32), LInt Inv (fun V n q => fB_task V n q a0 a1) (fun V n m => fR_task V n m a0 a1) [("java/lang/IndexOutOfBoundsException", 1), ("java/lang/IllegalArgumentException", 2)]) {V : zV} {n q m o : Nat} (hInv : Inv V n q m o) {i : Int32} {cells slots c2 s2 : Nat} (hc8 : cells + 8 ≤ c2) (hs8 : slots + 302 ≤ s2) (hc2 : c2 ≤ 601024) (hs2 : s2 ≤ 7292999) (hin1 : vp_in (i + 1) Ln) (hin2 : vp_in (i + 2) Ln) (hin3 : vp_in (i + 3) Ln) (kend : ∀ (V2 : zV) (n2 : Nat) (lv : List (Nat × Value)), lv.filter (fun z => z.1 < 5) = [(0, .ref b), (1, .ref q), (2, .ref m), (3, .ref o), (4, .int i)] → Inv V2 n2 q m o → gZ x (fun q => sz ≤ q) Q 8 c2 s2 V2 n2 1612 lv []) : gZ x (fun q => sz ≤ q) Q 8 cells slots V n 863 [(0, .ref b), (1, .ref q), (2, .ref m), (3, .ref o), (4, .int i)] [] := by
  have hc : cells + 1 ≤ 601024 := by omega
  have hs : slots + 6 ≤ 7292999 := by omega
  obtain ⟨⟨fs, hq⟩, w1, hB, ht, ho, hx, hk⟩ := hstep ((xs (i + 1).toNatClampNeg)) ((xs (i + 2).toNatClampNeg)) V n q m o hInv
  refine g_aload_n C 1 dL_863 rfl rfl ?_
  refine g_aload_n C 0 dL_864 rfl rfl ?_
  refine g_iload C 4 dL_865 rfl ?_
  refine g_iconst (v := 1) C dL_867 (by decide) ?_
  refine g_iadd C dL_868 ?_
  refine g_sld C S hin1 dL_869 ?_
  refine g_aload_n C 0 dL_870 rfl rfl ?_
  refine g_iload C 4 dL_871 rfl ?_
  refine g_iconst (v := 2) C dL_873 (by decide) ?_
  refine g_iadd C dL_874 ?_
  refine g_sld C S hin2 dL_875 ?_
  refine g_aload_n C 3 dL_876 rfl rfl ?_
  refine g_callH C hNN [.ref q, .int (xs (i + 1).toNatClampNeg), .int (xs (i + 2).toNatClampNeg), .ref o] cs_W_149 cw_W_task (fun l D dA hl => hW_task hl hB hq ht ho hx) (by decide) (by decide) rfl rfl (Nat.zero_le _) dL_877 hc hs (fun k V1 n1 hP9 => ?_)
  obtain ⟨⟨fs1, hm1⟩, r, V2, n2, hR, ⟨fs2, hm2⟩, hT, hInv, f, ⟨N, hO1, hO2⟩, hf⟩ := hk k V1 n1 hP9
  refine g_widen (c2 := c2) (s2 := s2) (by omega) (by omega) ?_
  refine g_istore (lv' := [(5, .int k), (0, .ref b), (1, .ref q), (2, .ref m), (3, .ref o), (4, .int i)]) C dL_880 (by decide) rfl ?_
  refine g_aload_n C 3 dL_882 rfl rfl ?_
  refine g_aload_n C 1 dL_883 rfl rfl ?_
  refine g_iload C 5 dL_884 rfl ?_
  refine g_iconst (v := 1) C dL_886 (by decide) ?_
  refine g_iadd C dL_887 ?_
  refine g_sld C S hin1 dL_888 ?_
  refine g_aload_n C 1 dL_889 rfl rfl ?_
  refine g_iload C 5 dL_890 rfl ?_
  refine g_iconst (v := 2) C dL_892 (by decide) ?_
  refine g_iadd C dL_893 ?_
  refine g_sld C S hin2 dL_894 ?_
  have hMM := fun (l : Launch) (D : va_G) (dA : Nat → ClassId) (hl : l.stackTraces = false) => mR_task (l := l) (D := D) (dA := dA) hl hR
  refine g_core (w1 := (.inl (some (.int r)), V2, n2)) C (g_runV (mc1 := 0) (ms1 := 0) (As := [.int (xs (i + 1).toNatClampNeg), .int (xs (i + 2).toNatClampNeg)]) C cv_W_151 hm1 rfl hMM (by decide) (by decide) rfl rfl (Nat.zero_le _) dL_895 (by omega) (by omega)) (fun v hv => ?_) (fun E n9 hE => by cases hE)
  cases hv
  show gZ x _ _ 8 _ _ V2 n2 _ _ [.int r]
  refine g_istore (lv' := [(6, .int r), (5, .int k), (0, .ref b), (1, .ref q), (2, .ref m), (3, .ref o), (4, .int i)]) C dL_898 (by decide) rfl ?_
  refine g_aload_n C 4 dL_900 rfl rfl ?_
  have hMM := fun (l : Launch) (D : va_G) (dA : Nat → ClassId) (hl : l.stackTraces = false) => mR_thrown (l := l) (D := D) (dA := dA) hl hT
  refine g_core (w1 := (.inl (some (.int k)), V2, n2)) C (g_runV (mc1 := 0) (ms1 := 0) (As := []) C cv_W_109 hm2 rfl hMM (by decide) (by decide) rfl rfl (Nat.zero_le _) dL_901 (by omega) (by omega)) (fun v hv => ?_) (fun E n9 hE => by cases hE)
  cases hv
  show gZ x _ _ 8 _ _ V2 n2 _ _ [.int k]
  refine g_iload C 1 dL_904 rfl ?_
  refine g_icmp_eq C 911 dL_906 (by decide) (fun _ => ?_) (fun h9 => absurd rfl h9)
  refine g_iload C 1 dL_911 rfl ?_
  refine g_if_ne C 928 dL_913 (by decide) (fun _ => ?_) (fun hz => ?_)
  · refine g_goto C 1612 dL_928 (by decide) ?_
    exact kend V2 n2 [(6, .int r), (5, .int k), (0, .ref b), (1, .ref q), (2, .ref m), (3, .ref o), (4, .int i)] rfl hInv
  · refine g_aload_n C 5 dL_916 rfl rfl ?_
    refine g_iconst (v := 0) C dL_917 (by decide) ?_
    refine g_lald C hO1 (h_in0 hO2) dL_918 ?_
    refine g_iload C 0 dL_919 rfl ?_
    refine g_i2l C dL_921 ?_
    refine g_lcmp C dL_922 ?_
    refine g_if_eq C 928 dL_923 (by decide) (fun _ => ?_) (fun h9 => absurd ((lg_cmp_eq _ _).mpr (hf hz)) h9)
    refine g_goto C 1612 dL_928 (by decide) ?_
    exact kend V2 n2 [(6, .int r), (5, .int k), (0, .ref b), (1, .ref q), (2, .ref m), (3, .ref o), (4, .int i)] rfl hInv
set_option maxHeartbeats 4000000 in
set_option maxRecDepth 100000 in
theorem law_12 {x : gX} {Inv : LI} {b Ln : Nat} {xs : Nat → Int32} {sz : Nat} {Q : State → Prop} (C : gC x (fun q => sz ≤ q) code "BarrierMarksLaw" 8 12 444 601024 7292999) (S : gS x (fun q => sz ≤ q) b Ln xs) (hNN : match x with | (_, _, _, _, s, _, _, _, _, _, _, _) => hN s) (hstep : ∀ (a0 : Int32) (a1 : Int32), LLong Inv (fun V n q => fB_kept V n q a0 a1) (fun V n m => fR_kept V n m a0 a1) [("java/lang/IndexOutOfBoundsException", 1), ("java/lang/IllegalStateException", 2)]) {V : zV} {n q m o : Nat} (hInv : Inv V n q m o) {i : Int32} {cells slots c2 s2 : Nat} (hc8 : cells + 8 ≤ c2) (hs8 : slots + 302 ≤ s2) (hc2 : c2 ≤ 601024) (hs2 : s2 ≤ 7292999) (hin1 : vp_in (i + 1) Ln) (hin2 : vp_in (i + 2) Ln) (hin3 : vp_in (i + 3) Ln) (kend : ∀ (V2 : zV) (n2 : Nat) (lv : List (Nat × Value)), lv.filter (fun z => z.1 < 5) = [(0, .ref b), (1, .ref q), (2, .ref m), (3, .ref o), (4, .int i)] → Inv V2 n2 q m o → gZ x (fun q => sz ≤ q) Q 8 c2 s2 V2 n2 1612 lv []) : gZ x (fun q => sz ≤ q) Q 8 cells slots V n 931 [(0, .ref b), (1, .ref q), (2, .ref m), (3, .ref o), (4, .int i)] [] := by
  have hc : cells + 1 ≤ 601024 := by omega
  have hs : slots + 6 ≤ 7292999 := by omega
  obtain ⟨⟨fs, hq⟩, w1, hB, ht, ho, hx, hk⟩ := hstep ((xs (i + 1).toNatClampNeg)) ((xs (i + 2).toNatClampNeg)) V n q m o hInv
  refine g_aload_n C 1 dL_931 rfl rfl ?_
  refine g_aload_n C 0 dL_932 rfl rfl ?_
  refine g_iload C 4 dL_933 rfl ?_
  refine g_iconst (v := 1) C dL_935 (by decide) ?_
  refine g_iadd C dL_936 ?_
  refine g_sld C S hin1 dL_937 ?_
  refine g_aload_n C 0 dL_938 rfl rfl ?_
  refine g_iload C 4 dL_939 rfl ?_
  refine g_iconst (v := 2) C dL_941 (by decide) ?_
  refine g_iadd C dL_942 ?_
  refine g_sld C S hin2 dL_943 ?_
  refine g_aload_n C 3 dL_944 rfl rfl ?_
  refine g_callH C hNN [.ref q, .int (xs (i + 1).toNatClampNeg), .int (xs (i + 2).toNatClampNeg), .ref o] cs_W_152 cw_W_kept (fun l D dA hl => hW_kept hl hB hq ht ho hx) (by decide) (by decide) rfl rfl (Nat.zero_le _) dL_945 hc hs (fun k V1 n1 hP9 => ?_)
  obtain ⟨⟨fs1, hm1⟩, r, V2, n2, hR, ⟨fs2, hm2⟩, hT, hInv, f, ⟨N, hO1, hO2⟩, hf⟩ := hk k V1 n1 hP9
  refine g_widen (c2 := c2) (s2 := s2) (by omega) (by omega) ?_
  refine g_istore (lv' := [(5, .int k), (0, .ref b), (1, .ref q), (2, .ref m), (3, .ref o), (4, .int i)]) C dL_948 (by decide) rfl ?_
  refine g_aload_n C 3 dL_950 rfl rfl ?_
  refine g_aload_n C 1 dL_951 rfl rfl ?_
  refine g_iload C 5 dL_952 rfl ?_
  refine g_iconst (v := 1) C dL_954 (by decide) ?_
  refine g_iadd C dL_955 ?_
  refine g_sld C S hin1 dL_956 ?_
  refine g_aload_n C 1 dL_957 rfl rfl ?_
  refine g_iload C 5 dL_958 rfl ?_
  refine g_iconst (v := 2) C dL_960 (by decide) ?_
  refine g_iadd C dL_961 ?_
  refine g_sld C S hin2 dL_962 ?_
  have hMM := fun (l : Launch) (D : va_G) (dA : Nat → ClassId) (hl : l.stackTraces = false) => mR_kept (l := l) (D := D) (dA := dA) hl hR
  refine g_core (w1 := (.inl (some (.long r)), V2, n2)) C (g_runV (mc1 := 0) (ms1 := 0) (As := [.int (xs (i + 1).toNatClampNeg), .int (xs (i + 2).toNatClampNeg)]) C cv_W_154 hm1 rfl hMM (by decide) (by decide) rfl rfl (Nat.zero_le _) dL_963 (by omega) (by omega)) (fun v hv => ?_) (fun E n9 hE => by cases hE)
  cases hv
  show gZ x _ _ 8 _ _ V2 n2 _ _ [.long r]
  refine g_lstore (lv' := [(6, .long r), (5, .int k), (0, .ref b), (1, .ref q), (2, .ref m), (3, .ref o), (4, .int i)]) C dL_966 (by decide) rfl ?_
  refine g_aload_n C 4 dL_968 rfl rfl ?_
  have hMM := fun (l : Launch) (D : va_G) (dA : Nat → ClassId) (hl : l.stackTraces = false) => mR_thrown (l := l) (D := D) (dA := dA) hl hT
  refine g_core (w1 := (.inl (some (.int k)), V2, n2)) C (g_runV (mc1 := 0) (ms1 := 0) (As := []) C cv_W_109 hm2 rfl hMM (by decide) (by decide) rfl rfl (Nat.zero_le _) dL_969 (by omega) (by omega)) (fun v hv => ?_) (fun E n9 hE => by cases hE)
  cases hv
  show gZ x _ _ 8 _ _ V2 n2 _ _ [.int k]
  refine g_iload C 1 dL_972 rfl ?_
  refine g_icmp_eq C 979 dL_974 (by decide) (fun _ => ?_) (fun h9 => absurd rfl h9)
  refine g_iload C 1 dL_979 rfl ?_
  refine g_if_ne C 995 dL_981 (by decide) (fun _ => ?_) (fun hz => ?_)
  · refine g_goto C 1612 dL_995 (by decide) ?_
    exact kend V2 n2 [(6, .long r), (5, .int k), (0, .ref b), (1, .ref q), (2, .ref m), (3, .ref o), (4, .int i)] rfl hInv
  · refine g_aload_n C 5 dL_984 rfl rfl ?_
    refine g_iconst (v := 0) C dL_985 (by decide) ?_
    refine g_lald C hO1 (h_in0 hO2) dL_986 ?_
    refine g_lload C 0 dL_987 rfl ?_
    refine g_lcmp C dL_989 ?_
    refine g_if_eq C 995 dL_990 (by decide) (fun _ => ?_) (fun h9 => absurd ((lg_cmp_eq _ _).mpr (hf hz)) h9)
    refine g_goto C 1612 dL_995 (by decide) ?_
    exact kend V2 n2 [(6, .long r), (5, .int k), (0, .ref b), (1, .ref q), (2, .ref m), (3, .ref o), (4, .int i)] rfl hInv
set_option maxHeartbeats 4000000 in
set_option maxRecDepth 100000 in
theorem law_13 {x : gX} {Inv : LI} {b Ln : Nat} {xs : Nat → Int32} {sz : Nat} {Q : State → Prop} (C : gC x (fun q => sz ≤ q) code "BarrierMarksLaw" 8 12 444 601024 7292999) (S : gS x (fun q => sz ≤ q) b Ln xs) (hNN : match x with | (_, _, _, _, s, _, _, _, _, _, _, _) => hN s) (hstep : ∀ (a0 : Int32) (a1 : Int32), LInt Inv (fun V n q => fB_keptRows V n q a0 a1) (fun V n m => fR_keptRows V n m a0 a1) [("java/lang/IndexOutOfBoundsException", 1), ("java/lang/IllegalStateException", 2)]) {V : zV} {n q m o : Nat} (hInv : Inv V n q m o) {i : Int32} {cells slots c2 s2 : Nat} (hc8 : cells + 8 ≤ c2) (hs8 : slots + 302 ≤ s2) (hc2 : c2 ≤ 601024) (hs2 : s2 ≤ 7292999) (hin1 : vp_in (i + 1) Ln) (hin2 : vp_in (i + 2) Ln) (hin3 : vp_in (i + 3) Ln) (kend : ∀ (V2 : zV) (n2 : Nat) (lv : List (Nat × Value)), lv.filter (fun z => z.1 < 5) = [(0, .ref b), (1, .ref q), (2, .ref m), (3, .ref o), (4, .int i)] → Inv V2 n2 q m o → gZ x (fun q => sz ≤ q) Q 8 c2 s2 V2 n2 1612 lv []) : gZ x (fun q => sz ≤ q) Q 8 cells slots V n 998 [(0, .ref b), (1, .ref q), (2, .ref m), (3, .ref o), (4, .int i)] [] := by
  have hc : cells + 1 ≤ 601024 := by omega
  have hs : slots + 6 ≤ 7292999 := by omega
  obtain ⟨⟨fs, hq⟩, w1, hB, ht, ho, hx, hk⟩ := hstep ((xs (i + 1).toNatClampNeg)) ((xs (i + 2).toNatClampNeg)) V n q m o hInv
  refine g_aload_n C 1 dL_998 rfl rfl ?_
  refine g_aload_n C 0 dL_999 rfl rfl ?_
  refine g_iload C 4 dL_1000 rfl ?_
  refine g_iconst (v := 1) C dL_1002 (by decide) ?_
  refine g_iadd C dL_1003 ?_
  refine g_sld C S hin1 dL_1004 ?_
  refine g_aload_n C 0 dL_1005 rfl rfl ?_
  refine g_iload C 4 dL_1006 rfl ?_
  refine g_iconst (v := 2) C dL_1008 (by decide) ?_
  refine g_iadd C dL_1009 ?_
  refine g_sld C S hin2 dL_1010 ?_
  refine g_aload_n C 3 dL_1011 rfl rfl ?_
  refine g_callH C hNN [.ref q, .int (xs (i + 1).toNatClampNeg), .int (xs (i + 2).toNatClampNeg), .ref o] cs_W_155 cw_W_keptRows (fun l D dA hl => hW_keptRows hl hB hq ht ho hx) (by decide) (by decide) rfl rfl (Nat.zero_le _) dL_1012 hc hs (fun k V1 n1 hP9 => ?_)
  obtain ⟨⟨fs1, hm1⟩, r, V2, n2, hR, ⟨fs2, hm2⟩, hT, hInv, f, ⟨N, hO1, hO2⟩, hf⟩ := hk k V1 n1 hP9
  refine g_widen (c2 := c2) (s2 := s2) (by omega) (by omega) ?_
  refine g_istore (lv' := [(5, .int k), (0, .ref b), (1, .ref q), (2, .ref m), (3, .ref o), (4, .int i)]) C dL_1015 (by decide) rfl ?_
  refine g_aload_n C 3 dL_1017 rfl rfl ?_
  refine g_aload_n C 1 dL_1018 rfl rfl ?_
  refine g_iload C 5 dL_1019 rfl ?_
  refine g_iconst (v := 1) C dL_1021 (by decide) ?_
  refine g_iadd C dL_1022 ?_
  refine g_sld C S hin1 dL_1023 ?_
  refine g_aload_n C 1 dL_1024 rfl rfl ?_
  refine g_iload C 5 dL_1025 rfl ?_
  refine g_iconst (v := 2) C dL_1027 (by decide) ?_
  refine g_iadd C dL_1028 ?_
  refine g_sld C S hin2 dL_1029 ?_
  have hMM := fun (l : Launch) (D : va_G) (dA : Nat → ClassId) (hl : l.stackTraces = false) => mR_keptRows (l := l) (D := D) (dA := dA) hl hR
  refine g_core (w1 := (.inl (some (.int r)), V2, n2)) C (g_runV (mc1 := 0) (ms1 := 0) (As := [.int (xs (i + 1).toNatClampNeg), .int (xs (i + 2).toNatClampNeg)]) C cv_W_157 hm1 rfl hMM (by decide) (by decide) rfl rfl (Nat.zero_le _) dL_1030 (by omega) (by omega)) (fun v hv => ?_) (fun E n9 hE => by cases hE)
  cases hv
  show gZ x _ _ 8 _ _ V2 n2 _ _ [.int r]
  refine g_istore (lv' := [(6, .int r), (5, .int k), (0, .ref b), (1, .ref q), (2, .ref m), (3, .ref o), (4, .int i)]) C dL_1033 (by decide) rfl ?_
  refine g_aload_n C 4 dL_1035 rfl rfl ?_
  have hMM := fun (l : Launch) (D : va_G) (dA : Nat → ClassId) (hl : l.stackTraces = false) => mR_thrown (l := l) (D := D) (dA := dA) hl hT
  refine g_core (w1 := (.inl (some (.int k)), V2, n2)) C (g_runV (mc1 := 0) (ms1 := 0) (As := []) C cv_W_109 hm2 rfl hMM (by decide) (by decide) rfl rfl (Nat.zero_le _) dL_1036 (by omega) (by omega)) (fun v hv => ?_) (fun E n9 hE => by cases hE)
  cases hv
  show gZ x _ _ 8 _ _ V2 n2 _ _ [.int k]
  refine g_iload C 1 dL_1039 rfl ?_
  refine g_icmp_eq C 1046 dL_1041 (by decide) (fun _ => ?_) (fun h9 => absurd rfl h9)
  refine g_iload C 1 dL_1046 rfl ?_
  refine g_if_ne C 1063 dL_1048 (by decide) (fun _ => ?_) (fun hz => ?_)
  · refine g_goto C 1612 dL_1063 (by decide) ?_
    exact kend V2 n2 [(6, .int r), (5, .int k), (0, .ref b), (1, .ref q), (2, .ref m), (3, .ref o), (4, .int i)] rfl hInv
  · refine g_aload_n C 5 dL_1051 rfl rfl ?_
    refine g_iconst (v := 0) C dL_1052 (by decide) ?_
    refine g_lald C hO1 (h_in0 hO2) dL_1053 ?_
    refine g_iload C 0 dL_1054 rfl ?_
    refine g_i2l C dL_1056 ?_
    refine g_lcmp C dL_1057 ?_
    refine g_if_eq C 1063 dL_1058 (by decide) (fun _ => ?_) (fun h9 => absurd ((lg_cmp_eq _ _).mpr (hf hz)) h9)
    refine g_goto C 1612 dL_1063 (by decide) ?_
    exact kend V2 n2 [(6, .int r), (5, .int k), (0, .ref b), (1, .ref q), (2, .ref m), (3, .ref o), (4, .int i)] rfl hInv
set_option maxHeartbeats 4000000 in
set_option maxRecDepth 100000 in
theorem law_14 {x : gX} {Inv : LI} {b Ln : Nat} {xs : Nat → Int32} {sz : Nat} {Q : State → Prop} (C : gC x (fun q => sz ≤ q) code "BarrierMarksLaw" 8 12 444 601024 7292999) (S : gS x (fun q => sz ≤ q) b Ln xs) (hNN : match x with | (_, _, _, _, s, _, _, _, _, _, _, _) => hN s) (hstep : ∀ (a0 : Int32) (a1 : Int32), LInt Inv (fun V n q => fB_position V n q a0 a1) (fun V n m => fR_position V n m a0 a1) [("java/lang/IndexOutOfBoundsException", 1)]) {V : zV} {n q m o : Nat} (hInv : Inv V n q m o) {i : Int32} {cells slots c2 s2 : Nat} (hc8 : cells + 8 ≤ c2) (hs8 : slots + 302 ≤ s2) (hc2 : c2 ≤ 601024) (hs2 : s2 ≤ 7292999) (hin1 : vp_in (i + 1) Ln) (hin2 : vp_in (i + 2) Ln) (hin3 : vp_in (i + 3) Ln) (kend : ∀ (V2 : zV) (n2 : Nat) (lv : List (Nat × Value)), lv.filter (fun z => z.1 < 5) = [(0, .ref b), (1, .ref q), (2, .ref m), (3, .ref o), (4, .int i)] → Inv V2 n2 q m o → gZ x (fun q => sz ≤ q) Q 8 c2 s2 V2 n2 1612 lv []) : gZ x (fun q => sz ≤ q) Q 8 cells slots V n 1066 [(0, .ref b), (1, .ref q), (2, .ref m), (3, .ref o), (4, .int i)] [] := by
  have hc : cells + 1 ≤ 601024 := by omega
  have hs : slots + 6 ≤ 7292999 := by omega
  obtain ⟨⟨fs, hq⟩, w1, hB, ht, ho, hx, hk⟩ := hstep ((xs (i + 1).toNatClampNeg)) ((xs (i + 2).toNatClampNeg)) V n q m o hInv
  refine g_aload_n C 1 dL_1066 rfl rfl ?_
  refine g_aload_n C 0 dL_1067 rfl rfl ?_
  refine g_iload C 4 dL_1068 rfl ?_
  refine g_iconst (v := 1) C dL_1070 (by decide) ?_
  refine g_iadd C dL_1071 ?_
  refine g_sld C S hin1 dL_1072 ?_
  refine g_aload_n C 0 dL_1073 rfl rfl ?_
  refine g_iload C 4 dL_1074 rfl ?_
  refine g_iconst (v := 2) C dL_1076 (by decide) ?_
  refine g_iadd C dL_1077 ?_
  refine g_sld C S hin2 dL_1078 ?_
  refine g_aload_n C 3 dL_1079 rfl rfl ?_
  refine g_callH C hNN [.ref q, .int (xs (i + 1).toNatClampNeg), .int (xs (i + 2).toNatClampNeg), .ref o] cs_W_158 cw_W_position (fun l D dA hl => hW_position hl hB hq ht ho hx) (by decide) (by decide) rfl rfl (Nat.zero_le _) dL_1080 hc hs (fun k V1 n1 hP9 => ?_)
  obtain ⟨⟨fs1, hm1⟩, r, V2, n2, hR, ⟨fs2, hm2⟩, hT, hInv, f, ⟨N, hO1, hO2⟩, hf⟩ := hk k V1 n1 hP9
  refine g_widen (c2 := c2) (s2 := s2) (by omega) (by omega) ?_
  refine g_istore (lv' := [(5, .int k), (0, .ref b), (1, .ref q), (2, .ref m), (3, .ref o), (4, .int i)]) C dL_1083 (by decide) rfl ?_
  refine g_aload_n C 3 dL_1085 rfl rfl ?_
  refine g_aload_n C 1 dL_1086 rfl rfl ?_
  refine g_iload C 5 dL_1087 rfl ?_
  refine g_iconst (v := 1) C dL_1089 (by decide) ?_
  refine g_iadd C dL_1090 ?_
  refine g_sld C S hin1 dL_1091 ?_
  refine g_aload_n C 1 dL_1092 rfl rfl ?_
  refine g_iload C 5 dL_1093 rfl ?_
  refine g_iconst (v := 2) C dL_1095 (by decide) ?_
  refine g_iadd C dL_1096 ?_
  refine g_sld C S hin2 dL_1097 ?_
  have hMM := fun (l : Launch) (D : va_G) (dA : Nat → ClassId) (hl : l.stackTraces = false) => mR_position (l := l) (D := D) (dA := dA) hl hR
  refine g_core (w1 := (.inl (some (.int r)), V2, n2)) C (g_runV (mc1 := 0) (ms1 := 0) (As := [.int (xs (i + 1).toNatClampNeg), .int (xs (i + 2).toNatClampNeg)]) C cv_W_160 hm1 rfl hMM (by decide) (by decide) rfl rfl (Nat.zero_le _) dL_1098 (by omega) (by omega)) (fun v hv => ?_) (fun E n9 hE => by cases hE)
  cases hv
  show gZ x _ _ 8 _ _ V2 n2 _ _ [.int r]
  refine g_istore (lv' := [(6, .int r), (5, .int k), (0, .ref b), (1, .ref q), (2, .ref m), (3, .ref o), (4, .int i)]) C dL_1101 (by decide) rfl ?_
  refine g_aload_n C 4 dL_1103 rfl rfl ?_
  have hMM := fun (l : Launch) (D : va_G) (dA : Nat → ClassId) (hl : l.stackTraces = false) => mR_thrown (l := l) (D := D) (dA := dA) hl hT
  refine g_core (w1 := (.inl (some (.int k)), V2, n2)) C (g_runV (mc1 := 0) (ms1 := 0) (As := []) C cv_W_109 hm2 rfl hMM (by decide) (by decide) rfl rfl (Nat.zero_le _) dL_1104 (by omega) (by omega)) (fun v hv => ?_) (fun E n9 hE => by cases hE)
  cases hv
  show gZ x _ _ 8 _ _ V2 n2 _ _ [.int k]
  refine g_iload C 1 dL_1107 rfl ?_
  refine g_icmp_eq C 1114 dL_1109 (by decide) (fun _ => ?_) (fun h9 => absurd rfl h9)
  refine g_iload C 1 dL_1114 rfl ?_
  refine g_if_ne C 1131 dL_1116 (by decide) (fun _ => ?_) (fun hz => ?_)
  · refine g_goto C 1612 dL_1131 (by decide) ?_
    exact kend V2 n2 [(6, .int r), (5, .int k), (0, .ref b), (1, .ref q), (2, .ref m), (3, .ref o), (4, .int i)] rfl hInv
  · refine g_aload_n C 5 dL_1119 rfl rfl ?_
    refine g_iconst (v := 0) C dL_1120 (by decide) ?_
    refine g_lald C hO1 (h_in0 hO2) dL_1121 ?_
    refine g_iload C 0 dL_1122 rfl ?_
    refine g_i2l C dL_1124 ?_
    refine g_lcmp C dL_1125 ?_
    refine g_if_eq C 1131 dL_1126 (by decide) (fun _ => ?_) (fun h9 => absurd ((lg_cmp_eq _ _).mpr (hf hz)) h9)
    refine g_goto C 1612 dL_1131 (by decide) ?_
    exact kend V2 n2 [(6, .int r), (5, .int k), (0, .ref b), (1, .ref q), (2, .ref m), (3, .ref o), (4, .int i)] rfl hInv
set_option maxHeartbeats 4000000 in
set_option maxRecDepth 100000 in
theorem law_15 {x : gX} {Inv : LI} {b Ln : Nat} {xs : Nat → Int32} {sz : Nat} {Q : State → Prop} (C : gC x (fun q => sz ≤ q) code "BarrierMarksLaw" 8 12 444 601024 7292999) (S : gS x (fun q => sz ≤ q) b Ln xs) (hNN : match x with | (_, _, _, _, s, _, _, _, _, _, _, _) => hN s) (hstep : ∀ (a0 : Int32), LInt Inv (fun V n q => fB_condition V n q a0) (fun V n m => fR_condition V n m a0) [("java/lang/IndexOutOfBoundsException", 1)]) {V : zV} {n q m o : Nat} (hInv : Inv V n q m o) {i : Int32} {cells slots c2 s2 : Nat} (hc8 : cells + 8 ≤ c2) (hs8 : slots + 302 ≤ s2) (hc2 : c2 ≤ 601024) (hs2 : s2 ≤ 7292999) (hin1 : vp_in (i + 1) Ln) (hin2 : vp_in (i + 2) Ln) (hin3 : vp_in (i + 3) Ln) (kend : ∀ (V2 : zV) (n2 : Nat) (lv : List (Nat × Value)), lv.filter (fun z => z.1 < 5) = [(0, .ref b), (1, .ref q), (2, .ref m), (3, .ref o), (4, .int i)] → Inv V2 n2 q m o → gZ x (fun q => sz ≤ q) Q 8 c2 s2 V2 n2 1612 lv []) : gZ x (fun q => sz ≤ q) Q 8 cells slots V n 1134 [(0, .ref b), (1, .ref q), (2, .ref m), (3, .ref o), (4, .int i)] [] := by
  have hc : cells + 1 ≤ 601024 := by omega
  have hs : slots + 6 ≤ 7292999 := by omega
  obtain ⟨⟨fs, hq⟩, w1, hB, ht, ho, hx, hk⟩ := hstep ((xs (i + 1).toNatClampNeg)) V n q m o hInv
  refine g_aload_n C 1 dL_1134 rfl rfl ?_
  refine g_aload_n C 0 dL_1135 rfl rfl ?_
  refine g_iload C 4 dL_1136 rfl ?_
  refine g_iconst (v := 1) C dL_1138 (by decide) ?_
  refine g_iadd C dL_1139 ?_
  refine g_sld C S hin1 dL_1140 ?_
  refine g_aload_n C 3 dL_1141 rfl rfl ?_
  refine g_callH C hNN [.ref q, .int (xs (i + 1).toNatClampNeg), .ref o] cs_W_161 cw_W_condition (fun l D dA hl => hW_condition hl hB hq ht ho hx) (by decide) (by decide) rfl rfl (Nat.zero_le _) dL_1142 hc hs (fun k V1 n1 hP9 => ?_)
  obtain ⟨⟨fs1, hm1⟩, r, V2, n2, hR, ⟨fs2, hm2⟩, hT, hInv, f, ⟨N, hO1, hO2⟩, hf⟩ := hk k V1 n1 hP9
  refine g_widen (c2 := c2) (s2 := s2) (by omega) (by omega) ?_
  refine g_istore (lv' := [(5, .int k), (0, .ref b), (1, .ref q), (2, .ref m), (3, .ref o), (4, .int i)]) C dL_1145 (by decide) rfl ?_
  refine g_aload_n C 3 dL_1147 rfl rfl ?_
  refine g_aload_n C 1 dL_1148 rfl rfl ?_
  refine g_iload C 5 dL_1149 rfl ?_
  refine g_iconst (v := 1) C dL_1151 (by decide) ?_
  refine g_iadd C dL_1152 ?_
  refine g_sld C S hin1 dL_1153 ?_
  have hMM := fun (l : Launch) (D : va_G) (dA : Nat → ClassId) (hl : l.stackTraces = false) => mR_condition (l := l) (D := D) (dA := dA) hl hR
  refine g_core (w1 := (.inl (some (.int r)), V2, n2)) C (g_runV (mc1 := 0) (ms1 := 0) (As := [.int (xs (i + 1).toNatClampNeg)]) C cv_W_163 hm1 rfl hMM (by decide) (by decide) rfl rfl (Nat.zero_le _) dL_1154 (by omega) (by omega)) (fun v hv => ?_) (fun E n9 hE => by cases hE)
  cases hv
  show gZ x _ _ 8 _ _ V2 n2 _ _ [.int r]
  refine g_istore (lv' := [(6, .int r), (5, .int k), (0, .ref b), (1, .ref q), (2, .ref m), (3, .ref o), (4, .int i)]) C dL_1157 (by decide) rfl ?_
  refine g_aload_n C 4 dL_1159 rfl rfl ?_
  have hMM := fun (l : Launch) (D : va_G) (dA : Nat → ClassId) (hl : l.stackTraces = false) => mR_thrown (l := l) (D := D) (dA := dA) hl hT
  refine g_core (w1 := (.inl (some (.int k)), V2, n2)) C (g_runV (mc1 := 0) (ms1 := 0) (As := []) C cv_W_109 hm2 rfl hMM (by decide) (by decide) rfl rfl (Nat.zero_le _) dL_1160 (by omega) (by omega)) (fun v hv => ?_) (fun E n9 hE => by cases hE)
  cases hv
  show gZ x _ _ 8 _ _ V2 n2 _ _ [.int k]
  refine g_iload C 1 dL_1163 rfl ?_
  refine g_icmp_eq C 1170 dL_1165 (by decide) (fun _ => ?_) (fun h9 => absurd rfl h9)
  refine g_iload C 1 dL_1170 rfl ?_
  refine g_if_ne C 1187 dL_1172 (by decide) (fun _ => ?_) (fun hz => ?_)
  · refine g_goto C 1612 dL_1187 (by decide) ?_
    exact kend V2 n2 [(6, .int r), (5, .int k), (0, .ref b), (1, .ref q), (2, .ref m), (3, .ref o), (4, .int i)] rfl hInv
  · refine g_aload_n C 5 dL_1175 rfl rfl ?_
    refine g_iconst (v := 0) C dL_1176 (by decide) ?_
    refine g_lald C hO1 (h_in0 hO2) dL_1177 ?_
    refine g_iload C 0 dL_1178 rfl ?_
    refine g_i2l C dL_1180 ?_
    refine g_lcmp C dL_1181 ?_
    refine g_if_eq C 1187 dL_1182 (by decide) (fun _ => ?_) (fun h9 => absurd ((lg_cmp_eq _ _).mpr (hf hz)) h9)
    refine g_goto C 1612 dL_1187 (by decide) ?_
    exact kend V2 n2 [(6, .int r), (5, .int k), (0, .ref b), (1, .ref q), (2, .ref m), (3, .ref o), (4, .int i)] rfl hInv
set_option maxHeartbeats 4000000 in
set_option maxRecDepth 100000 in
theorem law_16 {x : gX} {Inv : LI} {b Ln : Nat} {xs : Nat → Int32} {sz : Nat} {Q : State → Prop} (C : gC x (fun q => sz ≤ q) code "BarrierMarksLaw" 8 12 444 601024 7292999) (S : gS x (fun q => sz ≤ q) b Ln xs) (hNN : match x with | (_, _, _, _, s, _, _, _, _, _, _, _) => hN s) (hstep : ∀ (a0 : Int32), LInt Inv (fun V n q => fB_acknowledged V n q a0) (fun V n m => fR_acknowledged V n m a0) [("java/lang/IndexOutOfBoundsException", 1)]) {V : zV} {n q m o : Nat} (hInv : Inv V n q m o) {i : Int32} {cells slots c2 s2 : Nat} (hc8 : cells + 8 ≤ c2) (hs8 : slots + 302 ≤ s2) (hc2 : c2 ≤ 601024) (hs2 : s2 ≤ 7292999) (hin1 : vp_in (i + 1) Ln) (hin2 : vp_in (i + 2) Ln) (hin3 : vp_in (i + 3) Ln) (kend : ∀ (V2 : zV) (n2 : Nat) (lv : List (Nat × Value)), lv.filter (fun z => z.1 < 5) = [(0, .ref b), (1, .ref q), (2, .ref m), (3, .ref o), (4, .int i)] → Inv V2 n2 q m o → gZ x (fun q => sz ≤ q) Q 8 c2 s2 V2 n2 1612 lv []) : gZ x (fun q => sz ≤ q) Q 8 cells slots V n 1190 [(0, .ref b), (1, .ref q), (2, .ref m), (3, .ref o), (4, .int i)] [] := by
  have hc : cells + 1 ≤ 601024 := by omega
  have hs : slots + 6 ≤ 7292999 := by omega
  obtain ⟨⟨fs, hq⟩, w1, hB, ht, ho, hx, hk⟩ := hstep ((xs (i + 1).toNatClampNeg)) V n q m o hInv
  refine g_aload_n C 1 dL_1190 rfl rfl ?_
  refine g_aload_n C 0 dL_1191 rfl rfl ?_
  refine g_iload C 4 dL_1192 rfl ?_
  refine g_iconst (v := 1) C dL_1194 (by decide) ?_
  refine g_iadd C dL_1195 ?_
  refine g_sld C S hin1 dL_1196 ?_
  refine g_aload_n C 3 dL_1197 rfl rfl ?_
  refine g_callH C hNN [.ref q, .int (xs (i + 1).toNatClampNeg), .ref o] cs_W_164 cw_W_acknowledged (fun l D dA hl => hW_acknowledged hl hB hq ht ho hx) (by decide) (by decide) rfl rfl (Nat.zero_le _) dL_1198 hc hs (fun k V1 n1 hP9 => ?_)
  obtain ⟨⟨fs1, hm1⟩, r, V2, n2, hR, ⟨fs2, hm2⟩, hT, hInv, f, ⟨N, hO1, hO2⟩, hf⟩ := hk k V1 n1 hP9
  refine g_widen (c2 := c2) (s2 := s2) (by omega) (by omega) ?_
  refine g_istore (lv' := [(5, .int k), (0, .ref b), (1, .ref q), (2, .ref m), (3, .ref o), (4, .int i)]) C dL_1201 (by decide) rfl ?_
  refine g_aload_n C 3 dL_1203 rfl rfl ?_
  refine g_aload_n C 1 dL_1204 rfl rfl ?_
  refine g_iload C 5 dL_1205 rfl ?_
  refine g_iconst (v := 1) C dL_1207 (by decide) ?_
  refine g_iadd C dL_1208 ?_
  refine g_sld C S hin1 dL_1209 ?_
  have hMM := fun (l : Launch) (D : va_G) (dA : Nat → ClassId) (hl : l.stackTraces = false) => mR_acknowledged (l := l) (D := D) (dA := dA) hl hR
  refine g_core (w1 := (.inl (some (.int r)), V2, n2)) C (g_runV (mc1 := 0) (ms1 := 0) (As := [.int (xs (i + 1).toNatClampNeg)]) C cv_W_166 hm1 rfl hMM (by decide) (by decide) rfl rfl (Nat.zero_le _) dL_1210 (by omega) (by omega)) (fun v hv => ?_) (fun E n9 hE => by cases hE)
  cases hv
  show gZ x _ _ 8 _ _ V2 n2 _ _ [.int r]
  refine g_istore (lv' := [(6, .int r), (5, .int k), (0, .ref b), (1, .ref q), (2, .ref m), (3, .ref o), (4, .int i)]) C dL_1213 (by decide) rfl ?_
  refine g_aload_n C 4 dL_1215 rfl rfl ?_
  have hMM := fun (l : Launch) (D : va_G) (dA : Nat → ClassId) (hl : l.stackTraces = false) => mR_thrown (l := l) (D := D) (dA := dA) hl hT
  refine g_core (w1 := (.inl (some (.int k)), V2, n2)) C (g_runV (mc1 := 0) (ms1 := 0) (As := []) C cv_W_109 hm2 rfl hMM (by decide) (by decide) rfl rfl (Nat.zero_le _) dL_1216 (by omega) (by omega)) (fun v hv => ?_) (fun E n9 hE => by cases hE)
  cases hv
  show gZ x _ _ 8 _ _ V2 n2 _ _ [.int k]
  refine g_iload C 1 dL_1219 rfl ?_
  refine g_icmp_eq C 1226 dL_1221 (by decide) (fun _ => ?_) (fun h9 => absurd rfl h9)
  refine g_iload C 1 dL_1226 rfl ?_
  refine g_if_ne C 1243 dL_1228 (by decide) (fun _ => ?_) (fun hz => ?_)
  · refine g_goto C 1612 dL_1243 (by decide) ?_
    exact kend V2 n2 [(6, .int r), (5, .int k), (0, .ref b), (1, .ref q), (2, .ref m), (3, .ref o), (4, .int i)] rfl hInv
  · refine g_aload_n C 5 dL_1231 rfl rfl ?_
    refine g_iconst (v := 0) C dL_1232 (by decide) ?_
    refine g_lald C hO1 (h_in0 hO2) dL_1233 ?_
    refine g_iload C 0 dL_1234 rfl ?_
    refine g_i2l C dL_1236 ?_
    refine g_lcmp C dL_1237 ?_
    refine g_if_eq C 1243 dL_1238 (by decide) (fun _ => ?_) (fun h9 => absurd ((lg_cmp_eq _ _).mpr (hf hz)) h9)
    refine g_goto C 1612 dL_1243 (by decide) ?_
    exact kend V2 n2 [(6, .int r), (5, .int k), (0, .ref b), (1, .ref q), (2, .ref m), (3, .ref o), (4, .int i)] rfl hInv
set_option maxHeartbeats 4000000 in
set_option maxRecDepth 100000 in
theorem law_17 {x : gX} {Inv : LI} {b Ln : Nat} {xs : Nat → Int32} {sz : Nat} {Q : State → Prop} (C : gC x (fun q => sz ≤ q) code "BarrierMarksLaw" 8 12 444 601024 7292999) (S : gS x (fun q => sz ≤ q) b Ln xs) (hNN : match x with | (_, _, _, _, s, _, _, _, _, _, _, _) => hN s) (hstep : ∀ (a0 : Int32), LBool Inv (fun V n q => fB_exact V n q a0) (fun V n m => fR_exact V n m a0) [("java/lang/IndexOutOfBoundsException", 1), ("java/lang/IllegalStateException", 2)]) {V : zV} {n q m o : Nat} (hInv : Inv V n q m o) {i : Int32} {cells slots c2 s2 : Nat} (hc8 : cells + 8 ≤ c2) (hs8 : slots + 302 ≤ s2) (hc2 : c2 ≤ 601024) (hs2 : s2 ≤ 7292999) (hin1 : vp_in (i + 1) Ln) (hin2 : vp_in (i + 2) Ln) (hin3 : vp_in (i + 3) Ln) (kend : ∀ (V2 : zV) (n2 : Nat) (lv : List (Nat × Value)), lv.filter (fun z => z.1 < 5) = [(0, .ref b), (1, .ref q), (2, .ref m), (3, .ref o), (4, .int i)] → Inv V2 n2 q m o → gZ x (fun q => sz ≤ q) Q 8 c2 s2 V2 n2 1612 lv []) : gZ x (fun q => sz ≤ q) Q 8 cells slots V n 1246 [(0, .ref b), (1, .ref q), (2, .ref m), (3, .ref o), (4, .int i)] [] := by
  have hc : cells + 1 ≤ 601024 := by omega
  have hs : slots + 6 ≤ 7292999 := by omega
  obtain ⟨⟨fs, hq⟩, w1, hB, ht, ho, hx, hk⟩ := hstep ((xs (i + 1).toNatClampNeg)) V n q m o hInv
  refine g_aload_n C 1 dL_1246 rfl rfl ?_
  refine g_aload_n C 0 dL_1247 rfl rfl ?_
  refine g_iload C 4 dL_1248 rfl ?_
  refine g_iconst (v := 1) C dL_1250 (by decide) ?_
  refine g_iadd C dL_1251 ?_
  refine g_sld C S hin1 dL_1252 ?_
  refine g_aload_n C 3 dL_1253 rfl rfl ?_
  refine g_callH C hNN [.ref q, .int (xs (i + 1).toNatClampNeg), .ref o] cs_W_167 cw_W_exact (fun l D dA hl => hW_exact hl hB hq ht ho hx) (by decide) (by decide) rfl rfl (Nat.zero_le _) dL_1254 hc hs (fun k V1 n1 hP9 => ?_)
  obtain ⟨⟨fs1, hm1⟩, r, V2, n2, hR, ⟨fs2, hm2⟩, hT, hInv, f, ⟨N, hO1, hO2⟩, hf⟩ := hk k V1 n1 hP9
  refine g_widen (c2 := c2) (s2 := s2) (by omega) (by omega) ?_
  refine g_istore (lv' := [(5, .int k), (0, .ref b), (1, .ref q), (2, .ref m), (3, .ref o), (4, .int i)]) C dL_1257 (by decide) rfl ?_
  refine g_aload_n C 3 dL_1259 rfl rfl ?_
  refine g_aload_n C 1 dL_1260 rfl rfl ?_
  refine g_iload C 5 dL_1261 rfl ?_
  refine g_iconst (v := 1) C dL_1263 (by decide) ?_
  refine g_iadd C dL_1264 ?_
  refine g_sld C S hin1 dL_1265 ?_
  have hMM := fun (l : Launch) (D : va_G) (dA : Nat → ClassId) (hl : l.stackTraces = false) => mR_exact (l := l) (D := D) (dA := dA) hl hR
  refine g_core (w1 := (.inl (some (.int r)), V2, n2)) C (g_runV (mc1 := 0) (ms1 := 0) (As := [.int (xs (i + 1).toNatClampNeg)]) C cv_W_169 hm1 rfl hMM (by decide) (by decide) rfl rfl (Nat.zero_le _) dL_1266 (by omega) (by omega)) (fun v hv => ?_) (fun E n9 hE => by cases hE)
  cases hv
  show gZ x _ _ 8 _ _ V2 n2 _ _ [.int r]
  refine g_istore (lv' := [(6, .int r), (5, .int k), (0, .ref b), (1, .ref q), (2, .ref m), (3, .ref o), (4, .int i)]) C dL_1269 (by decide) rfl ?_
  refine g_aload_n C 4 dL_1271 rfl rfl ?_
  have hMM := fun (l : Launch) (D : va_G) (dA : Nat → ClassId) (hl : l.stackTraces = false) => mR_thrown (l := l) (D := D) (dA := dA) hl hT
  refine g_core (w1 := (.inl (some (.int k)), V2, n2)) C (g_runV (mc1 := 0) (ms1 := 0) (As := []) C cv_W_109 hm2 rfl hMM (by decide) (by decide) rfl rfl (Nat.zero_le _) dL_1272 (by omega) (by omega)) (fun v hv => ?_) (fun E n9 hE => by cases hE)
  cases hv
  show gZ x _ _ 8 _ _ V2 n2 _ _ [.int k]
  refine g_iload C 1 dL_1275 rfl ?_
  refine g_icmp_eq C 1282 dL_1277 (by decide) (fun _ => ?_) (fun h9 => absurd rfl h9)
  refine g_iload C 1 dL_1282 rfl ?_
  refine g_if_ne C 1306 dL_1284 (by decide) (fun _ => ?_) (fun hz => ?_)
  · refine g_goto C 1612 dL_1306 (by decide) ?_
    exact kend V2 n2 [(6, .int r), (5, .int k), (0, .ref b), (1, .ref q), (2, .ref m), (3, .ref o), (4, .int i)] rfl hInv
  · refine g_aload_n C 5 dL_1287 rfl rfl ?_
    refine g_iconst (v := 0) C dL_1288 (by decide) ?_
    refine g_lald C hO1 (h_in0 hO2) dL_1289 ?_
    refine g_iload C 0 dL_1290 rfl ?_
    refine g_if_eq C 1299 dL_1292 (by decide) (fun h8 => ?_) (fun h8 => ?_)
    · refine g_lconst (v := 0) C dL_1299 (by decide) ?_
      refine g_lcmp C dL_1300 ?_
      refine g_if_eq C 1306 dL_1301 (by decide) (fun _ => ?_) (fun h9 => absurd ((lg_cmp_eq _ _).mpr ((hf hz).trans (if_pos h8))) h9)
      refine g_goto C 1612 dL_1306 (by decide) ?_
      exact kend V2 n2 [(6, .int r), (5, .int k), (0, .ref b), (1, .ref q), (2, .ref m), (3, .ref o), (4, .int i)] rfl hInv
    · refine g_lconst (v := 1) C dL_1295 (by decide) ?_
      refine g_goto C 1300 dL_1296 (by decide) ?_
      refine g_lcmp C dL_1300 ?_
      refine g_if_eq C 1306 dL_1301 (by decide) (fun _ => ?_) (fun h9 => absurd ((lg_cmp_eq _ _).mpr ((hf hz).trans (if_neg h8))) h9)
      refine g_goto C 1612 dL_1306 (by decide) ?_
      exact kend V2 n2 [(6, .int r), (5, .int k), (0, .ref b), (1, .ref q), (2, .ref m), (3, .ref o), (4, .int i)] rfl hInv
set_option maxHeartbeats 4000000 in
set_option maxRecDepth 100000 in
theorem law_18 {x : gX} {Inv : LI} {b Ln : Nat} {xs : Nat → Int32} {sz : Nat} {Q : State → Prop} (C : gC x (fun q => sz ≤ q) code "BarrierMarksLaw" 8 12 444 601024 7292999) (S : gS x (fun q => sz ≤ q) b Ln xs) (hNN : match x with | (_, _, _, _, s, _, _, _, _, _, _, _) => hN s) (hstep : ∀ (a0 : Int32), LInt Inv (fun V n q => fB_held V n q a0) (fun V n m => fR_held V n m a0) [("java/lang/IndexOutOfBoundsException", 1)]) {V : zV} {n q m o : Nat} (hInv : Inv V n q m o) {i : Int32} {cells slots c2 s2 : Nat} (hc8 : cells + 8 ≤ c2) (hs8 : slots + 302 ≤ s2) (hc2 : c2 ≤ 601024) (hs2 : s2 ≤ 7292999) (hin1 : vp_in (i + 1) Ln) (hin2 : vp_in (i + 2) Ln) (hin3 : vp_in (i + 3) Ln) (kend : ∀ (V2 : zV) (n2 : Nat) (lv : List (Nat × Value)), lv.filter (fun z => z.1 < 5) = [(0, .ref b), (1, .ref q), (2, .ref m), (3, .ref o), (4, .int i)] → Inv V2 n2 q m o → gZ x (fun q => sz ≤ q) Q 8 c2 s2 V2 n2 1612 lv []) : gZ x (fun q => sz ≤ q) Q 8 cells slots V n 1309 [(0, .ref b), (1, .ref q), (2, .ref m), (3, .ref o), (4, .int i)] [] := by
  have hc : cells + 1 ≤ 601024 := by omega
  have hs : slots + 6 ≤ 7292999 := by omega
  obtain ⟨⟨fs, hq⟩, w1, hB, ht, ho, hx, hk⟩ := hstep ((xs (i + 1).toNatClampNeg)) V n q m o hInv
  refine g_aload_n C 1 dL_1309 rfl rfl ?_
  refine g_aload_n C 0 dL_1310 rfl rfl ?_
  refine g_iload C 4 dL_1311 rfl ?_
  refine g_iconst (v := 1) C dL_1313 (by decide) ?_
  refine g_iadd C dL_1314 ?_
  refine g_sld C S hin1 dL_1315 ?_
  refine g_aload_n C 3 dL_1316 rfl rfl ?_
  refine g_callH C hNN [.ref q, .int (xs (i + 1).toNatClampNeg), .ref o] cs_W_170 cw_W_held (fun l D dA hl => hW_held hl hB hq ht ho hx) (by decide) (by decide) rfl rfl (Nat.zero_le _) dL_1317 hc hs (fun k V1 n1 hP9 => ?_)
  obtain ⟨⟨fs1, hm1⟩, r, V2, n2, hR, ⟨fs2, hm2⟩, hT, hInv, f, ⟨N, hO1, hO2⟩, hf⟩ := hk k V1 n1 hP9
  refine g_widen (c2 := c2) (s2 := s2) (by omega) (by omega) ?_
  refine g_istore (lv' := [(5, .int k), (0, .ref b), (1, .ref q), (2, .ref m), (3, .ref o), (4, .int i)]) C dL_1320 (by decide) rfl ?_
  refine g_aload_n C 3 dL_1322 rfl rfl ?_
  refine g_aload_n C 1 dL_1323 rfl rfl ?_
  refine g_iload C 5 dL_1324 rfl ?_
  refine g_iconst (v := 1) C dL_1326 (by decide) ?_
  refine g_iadd C dL_1327 ?_
  refine g_sld C S hin1 dL_1328 ?_
  have hMM := fun (l : Launch) (D : va_G) (dA : Nat → ClassId) (hl : l.stackTraces = false) => mR_held (l := l) (D := D) (dA := dA) hl hR
  refine g_core (w1 := (.inl (some (.int r)), V2, n2)) C (g_runV (mc1 := 0) (ms1 := 0) (As := [.int (xs (i + 1).toNatClampNeg)]) C cv_W_172 hm1 rfl hMM (by decide) (by decide) rfl rfl (Nat.zero_le _) dL_1329 (by omega) (by omega)) (fun v hv => ?_) (fun E n9 hE => by cases hE)
  cases hv
  show gZ x _ _ 8 _ _ V2 n2 _ _ [.int r]
  refine g_istore (lv' := [(6, .int r), (5, .int k), (0, .ref b), (1, .ref q), (2, .ref m), (3, .ref o), (4, .int i)]) C dL_1332 (by decide) rfl ?_
  refine g_aload_n C 4 dL_1334 rfl rfl ?_
  have hMM := fun (l : Launch) (D : va_G) (dA : Nat → ClassId) (hl : l.stackTraces = false) => mR_thrown (l := l) (D := D) (dA := dA) hl hT
  refine g_core (w1 := (.inl (some (.int k)), V2, n2)) C (g_runV (mc1 := 0) (ms1 := 0) (As := []) C cv_W_109 hm2 rfl hMM (by decide) (by decide) rfl rfl (Nat.zero_le _) dL_1335 (by omega) (by omega)) (fun v hv => ?_) (fun E n9 hE => by cases hE)
  cases hv
  show gZ x _ _ 8 _ _ V2 n2 _ _ [.int k]
  refine g_iload C 1 dL_1338 rfl ?_
  refine g_icmp_eq C 1345 dL_1340 (by decide) (fun _ => ?_) (fun h9 => absurd rfl h9)
  refine g_iload C 1 dL_1345 rfl ?_
  refine g_if_ne C 1362 dL_1347 (by decide) (fun _ => ?_) (fun hz => ?_)
  · refine g_goto C 1612 dL_1362 (by decide) ?_
    exact kend V2 n2 [(6, .int r), (5, .int k), (0, .ref b), (1, .ref q), (2, .ref m), (3, .ref o), (4, .int i)] rfl hInv
  · refine g_aload_n C 5 dL_1350 rfl rfl ?_
    refine g_iconst (v := 0) C dL_1351 (by decide) ?_
    refine g_lald C hO1 (h_in0 hO2) dL_1352 ?_
    refine g_iload C 0 dL_1353 rfl ?_
    refine g_i2l C dL_1355 ?_
    refine g_lcmp C dL_1356 ?_
    refine g_if_eq C 1362 dL_1357 (by decide) (fun _ => ?_) (fun h9 => absurd ((lg_cmp_eq _ _).mpr (hf hz)) h9)
    refine g_goto C 1612 dL_1362 (by decide) ?_
    exact kend V2 n2 [(6, .int r), (5, .int k), (0, .ref b), (1, .ref q), (2, .ref m), (3, .ref o), (4, .int i)] rfl hInv
set_option maxHeartbeats 4000000 in
set_option maxRecDepth 100000 in
theorem law_19 {x : gX} {Inv : LI} {b Ln : Nat} {xs : Nat → Int32} {sz : Nat} {Q : State → Prop} (C : gC x (fun q => sz ≤ q) code "BarrierMarksLaw" 8 12 444 601024 7292999) (S : gS x (fun q => sz ≤ q) b Ln xs) (hNN : match x with | (_, _, _, _, s, _, _, _, _, _, _, _) => hN s) (hstep : ∀ (a0 : Int32), LInt Inv (fun V n q => fB_waiting V n q a0) (fun V n m => fR_waiting V n m a0) [("java/lang/IndexOutOfBoundsException", 1)]) {V : zV} {n q m o : Nat} (hInv : Inv V n q m o) {i : Int32} {cells slots c2 s2 : Nat} (hc8 : cells + 8 ≤ c2) (hs8 : slots + 302 ≤ s2) (hc2 : c2 ≤ 601024) (hs2 : s2 ≤ 7292999) (hin1 : vp_in (i + 1) Ln) (hin2 : vp_in (i + 2) Ln) (hin3 : vp_in (i + 3) Ln) (kend : ∀ (V2 : zV) (n2 : Nat) (lv : List (Nat × Value)), lv.filter (fun z => z.1 < 5) = [(0, .ref b), (1, .ref q), (2, .ref m), (3, .ref o), (4, .int i)] → Inv V2 n2 q m o → gZ x (fun q => sz ≤ q) Q 8 c2 s2 V2 n2 1612 lv []) : gZ x (fun q => sz ≤ q) Q 8 cells slots V n 1365 [(0, .ref b), (1, .ref q), (2, .ref m), (3, .ref o), (4, .int i)] [] := by
  have hc : cells + 1 ≤ 601024 := by omega
  have hs : slots + 6 ≤ 7292999 := by omega
  obtain ⟨⟨fs, hq⟩, w1, hB, ht, ho, hx, hk⟩ := hstep ((xs (i + 1).toNatClampNeg)) V n q m o hInv
  refine g_aload_n C 1 dL_1365 rfl rfl ?_
  refine g_aload_n C 0 dL_1366 rfl rfl ?_
  refine g_iload C 4 dL_1367 rfl ?_
  refine g_iconst (v := 1) C dL_1369 (by decide) ?_
  refine g_iadd C dL_1370 ?_
  refine g_sld C S hin1 dL_1371 ?_
  refine g_aload_n C 3 dL_1372 rfl rfl ?_
  refine g_callH C hNN [.ref q, .int (xs (i + 1).toNatClampNeg), .ref o] cs_W_173 cw_W_waiting (fun l D dA hl => hW_waiting hl hB hq ht ho hx) (by decide) (by decide) rfl rfl (Nat.zero_le _) dL_1373 hc hs (fun k V1 n1 hP9 => ?_)
  obtain ⟨⟨fs1, hm1⟩, r, V2, n2, hR, ⟨fs2, hm2⟩, hT, hInv, f, ⟨N, hO1, hO2⟩, hf⟩ := hk k V1 n1 hP9
  refine g_widen (c2 := c2) (s2 := s2) (by omega) (by omega) ?_
  refine g_istore (lv' := [(5, .int k), (0, .ref b), (1, .ref q), (2, .ref m), (3, .ref o), (4, .int i)]) C dL_1376 (by decide) rfl ?_
  refine g_aload_n C 3 dL_1378 rfl rfl ?_
  refine g_aload_n C 1 dL_1379 rfl rfl ?_
  refine g_iload C 5 dL_1380 rfl ?_
  refine g_iconst (v := 1) C dL_1382 (by decide) ?_
  refine g_iadd C dL_1383 ?_
  refine g_sld C S hin1 dL_1384 ?_
  have hMM := fun (l : Launch) (D : va_G) (dA : Nat → ClassId) (hl : l.stackTraces = false) => mR_waiting (l := l) (D := D) (dA := dA) hl hR
  refine g_core (w1 := (.inl (some (.int r)), V2, n2)) C (g_runV (mc1 := 0) (ms1 := 0) (As := [.int (xs (i + 1).toNatClampNeg)]) C cv_W_175 hm1 rfl hMM (by decide) (by decide) rfl rfl (Nat.zero_le _) dL_1385 (by omega) (by omega)) (fun v hv => ?_) (fun E n9 hE => by cases hE)
  cases hv
  show gZ x _ _ 8 _ _ V2 n2 _ _ [.int r]
  refine g_istore (lv' := [(6, .int r), (5, .int k), (0, .ref b), (1, .ref q), (2, .ref m), (3, .ref o), (4, .int i)]) C dL_1388 (by decide) rfl ?_
  refine g_aload_n C 4 dL_1390 rfl rfl ?_
  have hMM := fun (l : Launch) (D : va_G) (dA : Nat → ClassId) (hl : l.stackTraces = false) => mR_thrown (l := l) (D := D) (dA := dA) hl hT
  refine g_core (w1 := (.inl (some (.int k)), V2, n2)) C (g_runV (mc1 := 0) (ms1 := 0) (As := []) C cv_W_109 hm2 rfl hMM (by decide) (by decide) rfl rfl (Nat.zero_le _) dL_1391 (by omega) (by omega)) (fun v hv => ?_) (fun E n9 hE => by cases hE)
  cases hv
  show gZ x _ _ 8 _ _ V2 n2 _ _ [.int k]
  refine g_iload C 1 dL_1394 rfl ?_
  refine g_icmp_eq C 1401 dL_1396 (by decide) (fun _ => ?_) (fun h9 => absurd rfl h9)
  refine g_iload C 1 dL_1401 rfl ?_
  refine g_if_ne C 1418 dL_1403 (by decide) (fun _ => ?_) (fun hz => ?_)
  · refine g_goto C 1612 dL_1418 (by decide) ?_
    exact kend V2 n2 [(6, .int r), (5, .int k), (0, .ref b), (1, .ref q), (2, .ref m), (3, .ref o), (4, .int i)] rfl hInv
  · refine g_aload_n C 5 dL_1406 rfl rfl ?_
    refine g_iconst (v := 0) C dL_1407 (by decide) ?_
    refine g_lald C hO1 (h_in0 hO2) dL_1408 ?_
    refine g_iload C 0 dL_1409 rfl ?_
    refine g_i2l C dL_1411 ?_
    refine g_lcmp C dL_1412 ?_
    refine g_if_eq C 1418 dL_1413 (by decide) (fun _ => ?_) (fun h9 => absurd ((lg_cmp_eq _ _).mpr (hf hz)) h9)
    refine g_goto C 1612 dL_1418 (by decide) ?_
    exact kend V2 n2 [(6, .int r), (5, .int k), (0, .ref b), (1, .ref q), (2, .ref m), (3, .ref o), (4, .int i)] rfl hInv
set_option maxHeartbeats 4000000 in
set_option maxRecDepth 100000 in
theorem law_20 {x : gX} {Inv : LI} {b Ln : Nat} {xs : Nat → Int32} {sz : Nat} {Q : State → Prop} (C : gC x (fun q => sz ≤ q) code "BarrierMarksLaw" 8 12 444 601024 7292999) (S : gS x (fun q => sz ≤ q) b Ln xs) (hNN : match x with | (_, _, _, _, s, _, _, _, _, _, _, _) => hN s) (hstep : ∀ (a0 : Int32) (a1 : Int32), LInt Inv (fun V n q => fB_kind V n q a0 a1) (fun V n m => fR_kind V n m a0 a1) [("java/lang/IndexOutOfBoundsException", 1)]) {V : zV} {n q m o : Nat} (hInv : Inv V n q m o) {i : Int32} {cells slots c2 s2 : Nat} (hc8 : cells + 8 ≤ c2) (hs8 : slots + 302 ≤ s2) (hc2 : c2 ≤ 601024) (hs2 : s2 ≤ 7292999) (hin1 : vp_in (i + 1) Ln) (hin2 : vp_in (i + 2) Ln) (hin3 : vp_in (i + 3) Ln) (kend : ∀ (V2 : zV) (n2 : Nat) (lv : List (Nat × Value)), lv.filter (fun z => z.1 < 5) = [(0, .ref b), (1, .ref q), (2, .ref m), (3, .ref o), (4, .int i)] → Inv V2 n2 q m o → gZ x (fun q => sz ≤ q) Q 8 c2 s2 V2 n2 1612 lv []) : gZ x (fun q => sz ≤ q) Q 8 cells slots V n 1421 [(0, .ref b), (1, .ref q), (2, .ref m), (3, .ref o), (4, .int i)] [] := by
  have hc : cells + 1 ≤ 601024 := by omega
  have hs : slots + 6 ≤ 7292999 := by omega
  obtain ⟨⟨fs, hq⟩, w1, hB, ht, ho, hx, hk⟩ := hstep ((xs (i + 1).toNatClampNeg)) ((xs (i + 2).toNatClampNeg)) V n q m o hInv
  refine g_aload_n C 1 dL_1421 rfl rfl ?_
  refine g_aload_n C 0 dL_1422 rfl rfl ?_
  refine g_iload C 4 dL_1423 rfl ?_
  refine g_iconst (v := 1) C dL_1425 (by decide) ?_
  refine g_iadd C dL_1426 ?_
  refine g_sld C S hin1 dL_1427 ?_
  refine g_aload_n C 0 dL_1428 rfl rfl ?_
  refine g_iload C 4 dL_1429 rfl ?_
  refine g_iconst (v := 2) C dL_1431 (by decide) ?_
  refine g_iadd C dL_1432 ?_
  refine g_sld C S hin2 dL_1433 ?_
  refine g_aload_n C 3 dL_1434 rfl rfl ?_
  refine g_callH C hNN [.ref q, .int (xs (i + 1).toNatClampNeg), .int (xs (i + 2).toNatClampNeg), .ref o] cs_W_176 cw_W_kind (fun l D dA hl => hW_kind hl hB hq ht ho hx) (by decide) (by decide) rfl rfl (Nat.zero_le _) dL_1435 hc hs (fun k V1 n1 hP9 => ?_)
  obtain ⟨⟨fs1, hm1⟩, r, V2, n2, hR, ⟨fs2, hm2⟩, hT, hInv, f, ⟨N, hO1, hO2⟩, hf⟩ := hk k V1 n1 hP9
  refine g_widen (c2 := c2) (s2 := s2) (by omega) (by omega) ?_
  refine g_istore (lv' := [(5, .int k), (0, .ref b), (1, .ref q), (2, .ref m), (3, .ref o), (4, .int i)]) C dL_1438 (by decide) rfl ?_
  refine g_aload_n C 3 dL_1440 rfl rfl ?_
  refine g_aload_n C 1 dL_1441 rfl rfl ?_
  refine g_iload C 5 dL_1442 rfl ?_
  refine g_iconst (v := 1) C dL_1444 (by decide) ?_
  refine g_iadd C dL_1445 ?_
  refine g_sld C S hin1 dL_1446 ?_
  refine g_aload_n C 1 dL_1447 rfl rfl ?_
  refine g_iload C 5 dL_1448 rfl ?_
  refine g_iconst (v := 2) C dL_1450 (by decide) ?_
  refine g_iadd C dL_1451 ?_
  refine g_sld C S hin2 dL_1452 ?_
  have hMM := fun (l : Launch) (D : va_G) (dA : Nat → ClassId) (hl : l.stackTraces = false) => mR_kind (l := l) (D := D) (dA := dA) hl hR
  refine g_core (w1 := (.inl (some (.int r)), V2, n2)) C (g_runV (mc1 := 0) (ms1 := 0) (As := [.int (xs (i + 1).toNatClampNeg), .int (xs (i + 2).toNatClampNeg)]) C cv_W_178 hm1 rfl hMM (by decide) (by decide) rfl rfl (Nat.zero_le _) dL_1453 (by omega) (by omega)) (fun v hv => ?_) (fun E n9 hE => by cases hE)
  cases hv
  show gZ x _ _ 8 _ _ V2 n2 _ _ [.int r]
  refine g_istore (lv' := [(6, .int r), (5, .int k), (0, .ref b), (1, .ref q), (2, .ref m), (3, .ref o), (4, .int i)]) C dL_1456 (by decide) rfl ?_
  refine g_aload_n C 4 dL_1458 rfl rfl ?_
  have hMM := fun (l : Launch) (D : va_G) (dA : Nat → ClassId) (hl : l.stackTraces = false) => mR_thrown (l := l) (D := D) (dA := dA) hl hT
  refine g_core (w1 := (.inl (some (.int k)), V2, n2)) C (g_runV (mc1 := 0) (ms1 := 0) (As := []) C cv_W_109 hm2 rfl hMM (by decide) (by decide) rfl rfl (Nat.zero_le _) dL_1459 (by omega) (by omega)) (fun v hv => ?_) (fun E n9 hE => by cases hE)
  cases hv
  show gZ x _ _ 8 _ _ V2 n2 _ _ [.int k]
  refine g_iload C 1 dL_1462 rfl ?_
  refine g_icmp_eq C 1469 dL_1464 (by decide) (fun _ => ?_) (fun h9 => absurd rfl h9)
  refine g_iload C 1 dL_1469 rfl ?_
  refine g_if_ne C 1486 dL_1471 (by decide) (fun _ => ?_) (fun hz => ?_)
  · refine g_goto C 1612 dL_1486 (by decide) ?_
    exact kend V2 n2 [(6, .int r), (5, .int k), (0, .ref b), (1, .ref q), (2, .ref m), (3, .ref o), (4, .int i)] rfl hInv
  · refine g_aload_n C 5 dL_1474 rfl rfl ?_
    refine g_iconst (v := 0) C dL_1475 (by decide) ?_
    refine g_lald C hO1 (h_in0 hO2) dL_1476 ?_
    refine g_iload C 0 dL_1477 rfl ?_
    refine g_i2l C dL_1479 ?_
    refine g_lcmp C dL_1480 ?_
    refine g_if_eq C 1486 dL_1481 (by decide) (fun _ => ?_) (fun h9 => absurd ((lg_cmp_eq _ _).mpr (hf hz)) h9)
    refine g_goto C 1612 dL_1486 (by decide) ?_
    exact kend V2 n2 [(6, .int r), (5, .int k), (0, .ref b), (1, .ref q), (2, .ref m), (3, .ref o), (4, .int i)] rfl hInv
set_option maxHeartbeats 4000000 in
set_option maxRecDepth 100000 in
theorem law_21 {x : gX} {Inv : LI} {b Ln : Nat} {xs : Nat → Int32} {sz : Nat} {Q : State → Prop} (C : gC x (fun q => sz ≤ q) code "BarrierMarksLaw" 8 12 444 601024 7292999) (S : gS x (fun q => sz ≤ q) b Ln xs) (hNN : match x with | (_, _, _, _, s, _, _, _, _, _, _, _) => hN s) (hstep : ∀ (a0 : Int32) (a1 : Int32), LLong Inv (fun V n q => fB_value V n q a0 a1) (fun V n m => fR_value V n m a0 a1) [("java/lang/IndexOutOfBoundsException", 1)]) {V : zV} {n q m o : Nat} (hInv : Inv V n q m o) {i : Int32} {cells slots c2 s2 : Nat} (hc8 : cells + 8 ≤ c2) (hs8 : slots + 302 ≤ s2) (hc2 : c2 ≤ 601024) (hs2 : s2 ≤ 7292999) (hin1 : vp_in (i + 1) Ln) (hin2 : vp_in (i + 2) Ln) (hin3 : vp_in (i + 3) Ln) (kend : ∀ (V2 : zV) (n2 : Nat) (lv : List (Nat × Value)), lv.filter (fun z => z.1 < 5) = [(0, .ref b), (1, .ref q), (2, .ref m), (3, .ref o), (4, .int i)] → Inv V2 n2 q m o → gZ x (fun q => sz ≤ q) Q 8 c2 s2 V2 n2 1612 lv []) : gZ x (fun q => sz ≤ q) Q 8 cells slots V n 1489 [(0, .ref b), (1, .ref q), (2, .ref m), (3, .ref o), (4, .int i)] [] := by
  have hc : cells + 1 ≤ 601024 := by omega
  have hs : slots + 6 ≤ 7292999 := by omega
  obtain ⟨⟨fs, hq⟩, w1, hB, ht, ho, hx, hk⟩ := hstep ((xs (i + 1).toNatClampNeg)) ((xs (i + 2).toNatClampNeg)) V n q m o hInv
  refine g_aload_n C 1 dL_1489 rfl rfl ?_
  refine g_aload_n C 0 dL_1490 rfl rfl ?_
  refine g_iload C 4 dL_1491 rfl ?_
  refine g_iconst (v := 1) C dL_1493 (by decide) ?_
  refine g_iadd C dL_1494 ?_
  refine g_sld C S hin1 dL_1495 ?_
  refine g_aload_n C 0 dL_1496 rfl rfl ?_
  refine g_iload C 4 dL_1497 rfl ?_
  refine g_iconst (v := 2) C dL_1499 (by decide) ?_
  refine g_iadd C dL_1500 ?_
  refine g_sld C S hin2 dL_1501 ?_
  refine g_aload_n C 3 dL_1502 rfl rfl ?_
  refine g_callH C hNN [.ref q, .int (xs (i + 1).toNatClampNeg), .int (xs (i + 2).toNatClampNeg), .ref o] cs_W_179 cw_W_value (fun l D dA hl => hW_value hl hB hq ht ho hx) (by decide) (by decide) rfl rfl (Nat.zero_le _) dL_1503 hc hs (fun k V1 n1 hP9 => ?_)
  obtain ⟨⟨fs1, hm1⟩, r, V2, n2, hR, ⟨fs2, hm2⟩, hT, hInv, f, ⟨N, hO1, hO2⟩, hf⟩ := hk k V1 n1 hP9
  refine g_widen (c2 := c2) (s2 := s2) (by omega) (by omega) ?_
  refine g_istore (lv' := [(5, .int k), (0, .ref b), (1, .ref q), (2, .ref m), (3, .ref o), (4, .int i)]) C dL_1506 (by decide) rfl ?_
  refine g_aload_n C 3 dL_1508 rfl rfl ?_
  refine g_aload_n C 1 dL_1509 rfl rfl ?_
  refine g_iload C 5 dL_1510 rfl ?_
  refine g_iconst (v := 1) C dL_1512 (by decide) ?_
  refine g_iadd C dL_1513 ?_
  refine g_sld C S hin1 dL_1514 ?_
  refine g_aload_n C 1 dL_1515 rfl rfl ?_
  refine g_iload C 5 dL_1516 rfl ?_
  refine g_iconst (v := 2) C dL_1518 (by decide) ?_
  refine g_iadd C dL_1519 ?_
  refine g_sld C S hin2 dL_1520 ?_
  have hMM := fun (l : Launch) (D : va_G) (dA : Nat → ClassId) (hl : l.stackTraces = false) => mR_value (l := l) (D := D) (dA := dA) hl hR
  refine g_core (w1 := (.inl (some (.long r)), V2, n2)) C (g_runV (mc1 := 0) (ms1 := 0) (As := [.int (xs (i + 1).toNatClampNeg), .int (xs (i + 2).toNatClampNeg)]) C cv_W_181 hm1 rfl hMM (by decide) (by decide) rfl rfl (Nat.zero_le _) dL_1521 (by omega) (by omega)) (fun v hv => ?_) (fun E n9 hE => by cases hE)
  cases hv
  show gZ x _ _ 8 _ _ V2 n2 _ _ [.long r]
  refine g_lstore (lv' := [(6, .long r), (5, .int k), (0, .ref b), (1, .ref q), (2, .ref m), (3, .ref o), (4, .int i)]) C dL_1524 (by decide) rfl ?_
  refine g_aload_n C 4 dL_1526 rfl rfl ?_
  have hMM := fun (l : Launch) (D : va_G) (dA : Nat → ClassId) (hl : l.stackTraces = false) => mR_thrown (l := l) (D := D) (dA := dA) hl hT
  refine g_core (w1 := (.inl (some (.int k)), V2, n2)) C (g_runV (mc1 := 0) (ms1 := 0) (As := []) C cv_W_109 hm2 rfl hMM (by decide) (by decide) rfl rfl (Nat.zero_le _) dL_1527 (by omega) (by omega)) (fun v hv => ?_) (fun E n9 hE => by cases hE)
  cases hv
  show gZ x _ _ 8 _ _ V2 n2 _ _ [.int k]
  refine g_iload C 1 dL_1530 rfl ?_
  refine g_icmp_eq C 1537 dL_1532 (by decide) (fun _ => ?_) (fun h9 => absurd rfl h9)
  refine g_iload C 1 dL_1537 rfl ?_
  refine g_if_ne C 1553 dL_1539 (by decide) (fun _ => ?_) (fun hz => ?_)
  · refine g_goto C 1612 dL_1553 (by decide) ?_
    exact kend V2 n2 [(6, .long r), (5, .int k), (0, .ref b), (1, .ref q), (2, .ref m), (3, .ref o), (4, .int i)] rfl hInv
  · refine g_aload_n C 5 dL_1542 rfl rfl ?_
    refine g_iconst (v := 0) C dL_1543 (by decide) ?_
    refine g_lald C hO1 (h_in0 hO2) dL_1544 ?_
    refine g_lload C 0 dL_1545 rfl ?_
    refine g_lcmp C dL_1547 ?_
    refine g_if_eq C 1553 dL_1548 (by decide) (fun _ => ?_) (fun h9 => absurd ((lg_cmp_eq _ _).mpr (hf hz)) h9)
    refine g_goto C 1612 dL_1553 (by decide) ?_
    exact kend V2 n2 [(6, .long r), (5, .int k), (0, .ref b), (1, .ref q), (2, .ref m), (3, .ref o), (4, .int i)] rfl hInv
set_option maxHeartbeats 4000000 in
set_option maxRecDepth 100000 in
theorem law_22 {x : gX} {Inv : LI} {b Ln : Nat} {xs : Nat → Int32} {sz : Nat} {Q : State → Prop} (C : gC x (fun q => sz ≤ q) code "BarrierMarksLaw" 8 12 444 601024 7292999) (S : gS x (fun q => sz ≤ q) b Ln xs) (hNN : match x with | (_, _, _, _, s, _, _, _, _, _, _, _) => hN s) (hstep : ∀ (a0 : Int32), LInt Inv (fun V n q => fB_told V n q a0) (fun V n m => fR_told V n m a0) [("java/lang/IllegalArgumentException", 1)]) {V : zV} {n q m o : Nat} (hInv : Inv V n q m o) {i : Int32} {cells slots c2 s2 : Nat} (hc8 : cells + 8 ≤ c2) (hs8 : slots + 302 ≤ s2) (hc2 : c2 ≤ 601024) (hs2 : s2 ≤ 7292999) (hin1 : vp_in (i + 1) Ln) (hin2 : vp_in (i + 2) Ln) (hin3 : vp_in (i + 3) Ln) (kend : ∀ (V2 : zV) (n2 : Nat) (lv : List (Nat × Value)), lv.filter (fun z => z.1 < 5) = [(0, .ref b), (1, .ref q), (2, .ref m), (3, .ref o), (4, .int i)] → Inv V2 n2 q m o → gZ x (fun q => sz ≤ q) Q 8 c2 s2 V2 n2 1612 lv []) : gZ x (fun q => sz ≤ q) Q 8 cells slots V n 1556 [(0, .ref b), (1, .ref q), (2, .ref m), (3, .ref o), (4, .int i)] [] := by
  have hc : cells + 1 ≤ 601024 := by omega
  have hs : slots + 6 ≤ 7292999 := by omega
  obtain ⟨⟨fs, hq⟩, w1, hB, ht, ho, hx, hk⟩ := hstep ((xs (i + 1).toNatClampNeg)) V n q m o hInv
  refine g_aload_n C 1 dL_1556 rfl rfl ?_
  refine g_aload_n C 0 dL_1557 rfl rfl ?_
  refine g_iload C 4 dL_1558 rfl ?_
  refine g_iconst (v := 1) C dL_1560 (by decide) ?_
  refine g_iadd C dL_1561 ?_
  refine g_sld C S hin1 dL_1562 ?_
  refine g_aload_n C 3 dL_1563 rfl rfl ?_
  refine g_callH C hNN [.ref q, .int (xs (i + 1).toNatClampNeg), .ref o] cs_W_182 cw_W_told (fun l D dA hl => hW_told hl hB hq ht ho hx) (by decide) (by decide) rfl rfl (Nat.zero_le _) dL_1564 hc hs (fun k V1 n1 hP9 => ?_)
  obtain ⟨⟨fs1, hm1⟩, r, V2, n2, hR, ⟨fs2, hm2⟩, hT, hInv, f, ⟨N, hO1, hO2⟩, hf⟩ := hk k V1 n1 hP9
  refine g_widen (c2 := c2) (s2 := s2) (by omega) (by omega) ?_
  refine g_istore (lv' := [(5, .int k), (0, .ref b), (1, .ref q), (2, .ref m), (3, .ref o), (4, .int i)]) C dL_1567 (by decide) rfl ?_
  refine g_aload_n C 3 dL_1569 rfl rfl ?_
  refine g_aload_n C 1 dL_1570 rfl rfl ?_
  refine g_iload C 5 dL_1571 rfl ?_
  refine g_iconst (v := 1) C dL_1573 (by decide) ?_
  refine g_iadd C dL_1574 ?_
  refine g_sld C S hin1 dL_1575 ?_
  have hMM := fun (l : Launch) (D : va_G) (dA : Nat → ClassId) (hl : l.stackTraces = false) => mR_told (l := l) (D := D) (dA := dA) hl hR
  refine g_core (w1 := (.inl (some (.int r)), V2, n2)) C (g_runV (mc1 := 0) (ms1 := 0) (As := [.int (xs (i + 1).toNatClampNeg)]) C cv_W_184 hm1 rfl hMM (by decide) (by decide) rfl rfl (Nat.zero_le _) dL_1576 (by omega) (by omega)) (fun v hv => ?_) (fun E n9 hE => by cases hE)
  cases hv
  show gZ x _ _ 8 _ _ V2 n2 _ _ [.int r]
  refine g_istore (lv' := [(6, .int r), (5, .int k), (0, .ref b), (1, .ref q), (2, .ref m), (3, .ref o), (4, .int i)]) C dL_1579 (by decide) rfl ?_
  refine g_aload_n C 4 dL_1581 rfl rfl ?_
  have hMM := fun (l : Launch) (D : va_G) (dA : Nat → ClassId) (hl : l.stackTraces = false) => mR_thrown (l := l) (D := D) (dA := dA) hl hT
  refine g_core (w1 := (.inl (some (.int k)), V2, n2)) C (g_runV (mc1 := 0) (ms1 := 0) (As := []) C cv_W_109 hm2 rfl hMM (by decide) (by decide) rfl rfl (Nat.zero_le _) dL_1582 (by omega) (by omega)) (fun v hv => ?_) (fun E n9 hE => by cases hE)
  cases hv
  show gZ x _ _ 8 _ _ V2 n2 _ _ [.int k]
  refine g_iload C 1 dL_1585 rfl ?_
  refine g_icmp_eq C 1592 dL_1587 (by decide) (fun _ => ?_) (fun h9 => absurd rfl h9)
  refine g_iload C 1 dL_1592 rfl ?_
  refine g_if_ne C 1609 dL_1594 (by decide) (fun _ => ?_) (fun hz => ?_)
  · refine g_goto C 1612 dL_1609 (by decide) ?_
    exact kend V2 n2 [(6, .int r), (5, .int k), (0, .ref b), (1, .ref q), (2, .ref m), (3, .ref o), (4, .int i)] rfl hInv
  · refine g_aload_n C 5 dL_1597 rfl rfl ?_
    refine g_iconst (v := 0) C dL_1598 (by decide) ?_
    refine g_lald C hO1 (h_in0 hO2) dL_1599 ?_
    refine g_iload C 0 dL_1600 rfl ?_
    refine g_i2l C dL_1602 ?_
    refine g_lcmp C dL_1603 ?_
    refine g_if_eq C 1609 dL_1604 (by decide) (fun _ => ?_) (fun h9 => absurd ((lg_cmp_eq _ _).mpr (hf hz)) h9)
    refine g_goto C 1612 dL_1609 (by decide) ?_
    exact kend V2 n2 [(6, .int r), (5, .int k), (0, .ref b), (1, .ref q), (2, .ref m), (3, .ref o), (4, .int i)] rfl hInv
