/-! mark and channel: new objects -/
section PW
variable {e : pE} {t t' : pS} {s s' : zSt} {n : Nat}
theorem ext_Rf {k i : Nat} {L : List Nat} (hR : pRf e) (hf : FE e n) (hn : NE e k i) (hk : k ≠ 6) : pRf (extE e k i n L) := ⟨ext_ok hR.1 hf hn, fun j hj => ext_old hf (by omega) (hR.2.1 j hj), fun j hj => by
  show (if 6 = k ∧ 0 = i then L.getD j 0 else e.2.2.2 6 0 j) = _
  rw [if_neg (by omega)]
  exact hR.2.2 j hj⟩
theorem xt_ext {k i : Nat} {L : List Nat} (hR : pRf e) (hG : GE e n s) (hk : k = 3 ∨ k = 4 ∨ k = 5) (hn : NE e k i) (hM : s_M s ≤ s_M s') (hC : s_C s ≤ s_C s') (h5 : k = 5 → i < s_M s') (h3 : k ≠ 5 → i < s_C s') : Xt e (extE e k i n L) n (n + L.length) s' := by
  obtain ⟨g1, g2, g3, g4⟩ := hG
  refine ⟨rfl, ext_Rf hR g1 hn (by omega), ext_L (by omega) 0, ext_L (by omega) 0, fun a ha hnone => ?_, Nat.le_add_right _ _, ext_FE g1, ext_KE g2 (by omega), fun m hm => ext_NE (g3 m (by omega)) (by omega), fun c hc => ⟨ext_NE (g4 c (by omega)).1 (by omega), ext_NE (g4 c (by omega)).2 (by omega)⟩⟩
  rw [ext_nam, if_neg (by omega)]
  exact hnone
theorem kM_C (s : zSt) (m k : Nat) : s_C (keepM m k s) = s_C s := by
  induction k with
  | zero => rfl
  | succ k ih =>
    rw [keepM_s]
    split
    · rw [z_keepS_C]; exact ih
    · exact ih
theorem mark_M : s_M (markS s) = s_M s + 1 := by
  unfold markS
  rw [kM_M, z_posS_M, su_M]
theorem mark_C : s_C (markS s) = s_C s := by
  unfold markS
  rw [kM_C, z_posS_C, y_C_M, y_C_tol]
theorem st_mark : LInt InvW (fun V n q => fB_mark V n q) (fun V n m => fR_mark V n m) [("java/lang/IllegalStateException", 1)] := op_of hlong fun e t s n S => by
  obtain ⟨hR, hM, g, hv, hG⟩ := S
  have w := hv.1
  have hN8 := w.N8; have hC16 := w.C; have hM40 := w.M
  have hb3 : begunS s ≤ 3 := hv.2.2.2.2.2.2.2.2.2.2
  have hac := hv.acks
  by_cases hb : begunS s = 3 ∨ s_M s = 40
  · exact Or.inr ⟨_, _, (0 : Int32), fB_mark_b g w (by omega), cS4, fun E t1 n1 h M => fR_mark_b h M w hb⟩
  · refine Or.inl ⟨_, nI (s_M s), extE e 5 (s_M s) n (lenM (s_N s)), n + 7, markS s, fB_mark_g g w hG.1 (hG.2.2.1 _ (Nat.le_refl _)) hG.2.1 hv.frM (by omega) (by omega) (hv.markRoom (by omega)), ⟨_, rfl⟩, rfl, hv.mark (by omega) (by omega), ?_, fun E t1 n1 h M => fR_mark_g h M w (by omega) (by omega) (by omega)⟩
    exact xt_ext (L := lenM (s_N s)) hR hG (Or.inr (Or.inr rfl)) (hG.2.2.1 _ (Nat.le_refl _)) (by rw [mark_M]; omega) (by rw [mark_C]; omega) (fun _ => by rw [mark_M]; omega) (fun z => absurd rfl z)
theorem chan_M (k : Option Nat) (b : Nat) : s_M (channelS s k b) = s_M s := rfl
theorem chan_C (k : Option Nat) (b : Nat) : s_C (channelS s k b) = s_C s + 1 := rfl
theorem lt_m1 {x : Int32} (h : x < 0) (h1 : ¬ x = -1) : x < -1 := by
  rw [Int32.lt_iff_toInt_lt] at h ⊢
  have h2 : x.toInt ≠ (-1 : Int32).toInt := fun z => h1 (Int32.toInt_inj.mp z)
  rw [show (-1 : Int32).toInt = -1 from rfl] at h2 ⊢
  rw [show (0 : Int32).toInt = 0 from rfl] at h
  omega
theorem st_channel (a0 a1 : Int32) : LInt InvW (fun V n q => fB_channel V n q a0 a1) (fun V n m => fR_channel V n m a0 a1) [("java/lang/IndexOutOfBoundsException", 1), ("java/lang/IllegalStateException", 2), ("java/lang/IllegalArgumentException", 3)] := op_of hlong fun e t s n S => by
  obtain ⟨hR, hM, g, hv, hG⟩ := S
  have w := hv.1
  have hN8 := w.N8; have hC16 := w.C; have hM40 := w.M
  rcases bad_or a1 (N := s_N s) (by omega) with hy | ⟨y, hy, rfl⟩
  · exact Or.inr ⟨_, _, (0 : Int32), fB_channel_b1 g w a0 hy, cI3, fun E t1 n1 h M => fR_channel_b h M w (Or.inr hy)⟩
  · by_cases h1 : a0 = -1
    · rw [h1]
      have hn1 : ¬ nI (s_N s) ≤ (-1 : Int32) := fun z => by
        have := nI_toInt (n := s_N s) (by omega)
        rw [Int32.le_iff_toInt_le, this, show (-1 : Int32).toInt = -1 from rfl] at z
        omega
      by_cases hb : s_C s = 16 ∨ s_tol s = true
      · exact Or.inr ⟨_, _, (0 : Int32), fB_channel_n1 g w hy hb.symm, cS3, fun E t1 n1 h M => fR_channel_n2 h M w (by decide) hn1 hy hb⟩
      · have hC1 : s_C s ≠ 16 := fun z => hb (Or.inl z)
        have ht : s_tol s = false := by
          cases z : s_tol s with
          | false => rfl
          | true => exact absurd (Or.inr z) hb
        refine Or.inl ⟨_, nI (s_C s), extE e 3 (s_C s) n lenS, n + 5, channelS s none y, fB_channel_s g w (hv.frC ht) hG.1 (hG.2.2.2 _ (Nat.le_refl _)).1 hG.2.1 (by omega) ht hy, ⟨_, rfl⟩, rfl, hv.channel ht (by omega) hy (fun a ha => by cases ha), ?_, fun E t1 n1 h M => fR_channel_g1 h M w hy hC1 ht⟩
        exact xt_ext (L := lenS) hR hG (Or.inl rfl) (hG.2.2.2 _ (Nat.le_refl _)).1 (Nat.le_of_eq (chan_M none y).symm) (by rw [chan_C]; omega) (fun z => by omega) (fun z => by rw [chan_C]; omega)
    · rcases bad_or a0 (N := s_N s) (by omega) with hx | ⟨x, hx, rfl⟩
      · exact Or.inr ⟨_, _, (0 : Int32), fB_channel_b2 g w hy h1 hx, cI3, fun E t1 n1 h M => fR_channel_b h M w (Or.inl (hx.imp (fun z => lt_m1 z h1) (fun z => z)))⟩
      · have hn1 : ¬ nI x < (-1 : Int32) := fun z => by
          have := nI_toInt (n := x) (by omega)
          rw [Int32.lt_iff_toInt_lt, this, show (-1 : Int32).toInt = -1 from rfl] at z
          omega
        have hn2 : ¬ nI (s_N s) ≤ nI x := fun z => by
          rw [nI_leI (by omega) (by omega)] at z
          omega
        by_cases hb : s_C s = 16 ∨ s_tol s = true
        · exact Or.inr ⟨_, _, (0 : Int32), fB_channel_n2 g w hx hy hb.symm, cS3, fun E t1 n1 h M => fR_channel_n2 h M w hn1 hn2 hy hb⟩
        · have hC1 : s_C s ≠ 16 := fun z => hb (Or.inl z)
          have ht : s_tol s = false := by
            cases z : s_tol s with
            | false => rfl
            | true => exact absurd (Or.inr z) hb
          by_cases h3 : reachS s y x = true ∨ hasIn s x = false
          · exact Or.inr ⟨_, _, (0 : Int32), fB_channel_n3 g w hx hy ht (by omega) h3, cA3, fun E t1 n1 h M => fR_channel_n3 h M w hx hy hC1 ht h3⟩
          · have h4 : reachS s y x = false := by
              cases z : reachS s y x with
              | false => rfl
              | true => exact absurd (Or.inl z) h3
            have h5 : hasIn s x = true := by
              cases z : hasIn s x with
              | true => rfl
              | false => exact absurd (Or.inr z) h3
            refine Or.inl ⟨_, nI (s_C s), extE e 4 (s_C s) n lenL, n + 3, channelS s (some x) y, fB_channel_l g w (hv.frC ht) hG.1 (hG.2.2.2 _ (Nat.le_refl _)).2 hG.2.1 (by omega) ht hx hy h5 h4, ⟨_, rfl⟩, rfl, hv.channel ht (by omega) hy (fun a ha => by cases ha; exact ⟨hx, h5, h4⟩), ?_, fun E t1 n1 h M => fR_channel_g2 h M w hx hy hC1 ht h4 h5⟩
            exact xt_ext (L := lenL) hR hG (Or.inr (Or.inl rfl)) (hG.2.2.2 _ (Nat.le_refl _)).2 (Nat.le_of_eq (chan_M (some x) y).symm) (by rw [chan_C]; omega) (fun z => by omega) (fun z => by rw [chan_C]; omega)
theorem st_all : LSteps InvW := ⟨fun a0 a1 => st_channel a0 a1, fun a0 a1 => st_send a0 a1, fun a0 => st_finish a0, st_mark, fun a0 => st_turn a0, fun a0 a1 => st_play a0 a1, fun a0 => st_giveUp a0, fun a0 a1 => st_fails a0 a1, fun a0 a1 => st_again a0 a1, fun a0 => st_restore a0, fun a0 => st_state a0, fun a0 a1 => st_task a0 a1, fun a0 a1 => st_kept a0 a1, fun a0 a1 => st_keptRows a0 a1, fun a0 a1 => st_position a0 a1, fun a0 => st_condition a0, fun a0 => st_acknowledged a0, fun a0 => st_exact a0, fun a0 => st_held a0, fun a0 => st_waiting a0, fun a0 a1 => st_kind a0 a1, fun a0 a1 => st_value a0 a1, fun a0 => st_told a0⟩
end PW
