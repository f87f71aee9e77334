/-! the calls that change, without new objects -/
section PW
variable {s : zSt}
theorem MC.tr {s1 s2 s3 : zSt} (h1 : MC s1 s2) (h2 : MC s2 s3) : MC s1 s3 := ⟨h2.1.trans h1.1, h2.2.trans h1.2⟩
theorem close_MC (m how : Nat) : MC s (closeS s m how) := ⟨z_closeS_M _ _ _, z_closeS_C _ _ _⟩
theorem gu_MC (k : Nat) : MC s (giveUpTo k s) := ⟨gu_M _ _, gu_C _ _⟩
theorem kA_C (s : zSt) (x k : Nat) : s_C (keepAll x k s) = s_C s := by
  induction k with
  | zero => rfl
  | succ k ih =>
    rw [keepAll_s]
    split
    · rw [z_keepS_C]; exact ih
    · exact ih
theorem take_MC (w : Wf s) (x c : Nat) : MC s (takeS s x c).2 := by
  cases hn : nextS s c with
  | none =>
    have e1 : takeS s x c = (0, s) := by unfold takeS; rw [hn]
    rw [e1]
    exact MC.rfl'
  | some k =>
    have hk2 := nextS_le w hn
    match k, hk2 with
    | 0, _ =>
      cases hcr : credit s x with
      | false =>
        have e1 : takeS s x c = (0, s) := by unfold takeS; rw [hn]; dsimp only; rw [hcr]; rfl
        rw [e1]
        exact MC.rfl'
      | true =>
        cases hf : s_fr s c with
        | none =>
          obtain ⟨v, hv⟩ := takeS_0 hn hcr (u_stand (u_latest s (fu (s_latest s) x (some c))) (fu (s_stand s) c (s_stand s c + 1))) (by rw [if_pos hf])
          rw [hv]
          exact ⟨rfl, rfl⟩
        | some j =>
          obtain ⟨v, hv⟩ := takeS_0 hn hcr (u_q (u_latest s (fu (s_latest s) x (some c))) (fu (s_q s) c (s_q s c).tail)) (by rw [if_neg (by rw [hf]; intro q; cases q)])
          rw [hv]
          exact ⟨rfl, rfl⟩
    | 1, _ =>
      cases hf : s_fr s c with
      | none =>
        obtain ⟨m, hm⟩ := bar_of hf hn
        rw [takeS_1s hn hf hm]
        exact ⟨rfl, rfl⟩
      | some j =>
        rw [takeS_1l hn hf rfl]
        exact ⟨rfl, rfl⟩
    | 2, _ =>
      cases hf : s_fr s c with
      | none =>
        rw [takeS_2s hn hf]
        exact ⟨rfl, rfl⟩
      | some j =>
        rw [takeS_2l hn hf]
        exact ⟨rfl, rfl⟩
theorem go_MC (w : Wf s) (x : Nat) : MC s (goS s x).2 := by
  cases he : s_ended s x with
  | true =>
    have e1 : goS s x = (0, s) := by unfold goS; rw [if_pos (Or.inl he)]
    rw [e1]; exact MC.rfl'
  | false =>
    cases hi : hasIn s x with
    | false =>
      have e1 : goS s x = (0, s) := by unfold goS; rw [if_pos (Or.inr hi)]
      rw [e1]; exact MC.rfl'
    | true =>
      cases hall : (ins s x).all (fun c => (s_held s c).isSome || s_over s c) with
      | true =>
        cases hh : heldS s x with
        | some m =>
          rw [goS_k he hi hall hh]
          cases hcr : credit s x with
          | false => exact MC.rfl'
          | true =>
            rw [if_pos rfl]
            cases hfl : s_fails s m x with
            | true => exact close_MC m 2
            | false => exact ⟨kg_M m x, kg_C m x⟩
        | none =>
          have e1 : goS s x = (6, keepAll x (s_M s) (enS s x)) := by
            unfold goS
            rw [if_neg (by simp [he, hi]), if_pos hall, hh]
            unfold enS
            dsimp only
            rw [z_giveS_ended]
          rw [e1]
          exact ⟨(kA_M _ _ _).trans rfl, (kA_C _ _ _).trans rfl⟩
      | false =>
        have e1 : goS s x = pickT s x (pickS s x) := by
          unfold goS
          rw [if_neg (by simp [he, hi]), if_neg (by rw [hall]; decide)]
          rfl
        rw [e1]
        cases hp : pickS s x with
        | none => exact MC.rfl'
        | some c => exact take_MC w x c
theorem keeper_MC : MC s (keeperS s).2 := by
  cases hk : s_acks s with
  | nil =>
    have e1 : keeperS s = (0, s) := by unfold keeperS; rw [hk]
    rw [e1]
    exact MC.rfl'
  | cons z r =>
    obtain ⟨m, x⟩ := z
    rw [keeperS_eq s hk]
    dsimp only
    split
    · exact ⟨rfl, rfl⟩
    · split
      · exact ⟨rfl, rfl⟩
      · exact MC.tr (MC.tr (s2 := u_taken (u_acks s r) (fu2 (s_taken (u_acks s r)) m x true)) ⟨rfl, rfl⟩ (close_MC m 1)) (gu_MC m)
theorem play_P (P : zSt → Prop) (hP : ∀ s x, P s → P (stepS s x).2) : ∀ (d : Nat) (s : zSt) (x : Int64) (a : Nat), P s → P (playS d s x a).2 := by
  intro d
  induction d with
  | zero => intro s x a h; rw [playS_0]; exact h
  | succ d ih => intro s x a h; rw [playS_s]; exact ih _ _ _ (hP s _ h)
theorem step_MC (w : Wf s) (x : Int64) : MC s (stepS s x).2 := by
  unfold stepS
  split
  · exact keeper_MC
  · exact go_MC w _
theorem play_Iv (h : Iv s) (d : Nat) (x : Int64) (a : Nat) : Iv (playS d s x a).2 ∧ MC s (playS d s x a).2 := play_P (fun s' => Iv s' ∧ MC s s') (fun s' y h' => ⟨h'.1.step y, h'.2.tr (step_MC h'.1.1 y)⟩) d s x a ⟨h, MC.rfl'⟩
theorem rest_MC (m : Nat) : MC s (restoreS s m) := by
  unfold restoreS
  exact ⟨by rw [z_backC_M, y_M_acks, z_backT_M, gu_M], by rw [z_backC_C, y_C_acks, z_backT_C, gu_C]⟩
end PW
theorem st_send (a0 : Int32) (a1 : Int64) : LInt InvW (fun V n q => fB_send V n q a0 a1) (fun V n m => fR_send V n m a0 a1) [("java/lang/IndexOutOfBoundsException", 1), ("java/lang/IllegalStateException", 2)] := op_int fun e t s n S => by
  obtain ⟨hR, hM, g, hv, hG⟩ := S
  have w := hv.1
  have hN8 := w.N8; have hC16 := w.C; have hM40 := w.M
  rcases bad_or a0 (N := s_C s) (by omega) with hx | ⟨c, hc, rfl⟩
  · exact Or.inr ⟨_, _, _, fB_send_b g a1 hx, cI2, fun E t1 n1 h M => fR_send_b h M a1 hx⟩
  · by_cases hb : s_fr s c ≠ none ∨ s_fin s c = true ∨ (s_log s c).length = 200
    · exact Or.inr ⟨_, _, _, fB_send_n g w a1 hc hb, cS2, fun E t1 n1 h M => fR_send_n h M w a1 hc hb⟩
    · have h1 : s_fr s c = none := Classical.byContradiction fun z => hb (Or.inl z)
      have h2 : s_fin s c = false := by
        cases z : s_fin s c with
        | false => rfl
        | true => exact absurd (Or.inr (Or.inl z)) hb
      have h3 : (s_log s c).length ≠ 200 := fun z => hb (Or.inr (Or.inr z))
      have h4 := w.log c
      exact Or.inl ⟨_, sendS s c a1, fB_send_g g w a1 hc h1 h2 h3, hv.send hc (by omega), ⟨rfl, rfl⟩, fun E t1 n1 h M => fR_send_g h M w a1 hc h1 h2 h3⟩
theorem st_finish (a0 : Int32) : LInt InvW (fun V n q => fB_finish V n q a0) (fun V n m => fR_finish V n m a0) [("java/lang/IndexOutOfBoundsException", 1), ("java/lang/IllegalStateException", 2)] := op_int fun e t s n S => by
  obtain ⟨hR, hM, g, hv, hG⟩ := S
  have w := hv.1
  have hN8 := w.N8; have hC16 := w.C; have hM40 := w.M
  rcases bad_or a0 (N := s_C s) (by omega) with hx | ⟨c, hc, rfl⟩
  · exact Or.inr ⟨_, _, _, fB_finish_b g hx, cI2, fun E t1 n1 h M => fR_finish_b h M hx⟩
  · by_cases hb : s_fr s c ≠ none ∨ s_fin s c = true
    · exact Or.inr ⟨_, _, _, fB_finish_n g w hc hb, cS2, fun E t1 n1 h M => fR_finish_n h M w hc hb⟩
    · have h1 : s_fr s c = none := Classical.byContradiction fun z => hb (Or.inl z)
      have h2 : s_fin s c = false := by
        cases z : s_fin s c with
        | false => rfl
        | true => exact absurd (Or.inr z) hb
      exact Or.inl ⟨_, finishS s c, fB_finish_g g w hc h1 h2, hv.finish hc, ⟨rfl, rfl⟩, fun E t1 n1 h M => fR_finish_g h M w hc h1 h2⟩
theorem st_giveUp (a0 : Int32) : LInt InvW (fun V n q => fB_giveUp V n q a0) (fun V n m => fR_giveUp V n m a0) [("java/lang/IndexOutOfBoundsException", 1), ("java/lang/IllegalStateException", 2)] := op_int fun e t s n S => by
  obtain ⟨hR, hM, g, hv, hG⟩ := S
  have w := hv.1
  have hN8 := w.N8; have hC16 := w.C; have hM40 := w.M
  rcases bad_or a0 (N := s_M s) (by omega) with hx | ⟨m, hm, rfl⟩
  · exact Or.inr ⟨_, _, _, fB_giveUp_b g hx, cI2, fun E t1 n1 h M => fR_giveUp_b h M hx⟩
  · by_cases hb : s_cond s m = 0
    · exact Or.inl ⟨_, closeS s m 2, fB_giveUp_g g w hm hb, hv.close hm hb (by omega) (by omega), close_MC m 2, fun E t1 n1 h M => fR_giveUp_g h M w hm hb⟩
    · exact Or.inr ⟨_, _, _, fB_giveUp_n g w hm hb, cS2, fun E t1 n1 h M => fR_giveUp_n h M w hm hb⟩
theorem st_again (a0 : Int32) (a1 : Int32) : LInt InvW (fun V n q => fB_again V n q a0 a1) (fun V n m => fR_again V n m a0 a1) [("java/lang/IndexOutOfBoundsException", 1), ("java/lang/IllegalStateException", 2)] := op_int fun e t s n S => by
  obtain ⟨hR, hM, g, hv, hG⟩ := S
  have w := hv.1
  have hN8 := w.N8; have hC16 := w.C; have hM40 := w.M
  rcases bad_or a1 (N := s_N s) (by omega) with hy | ⟨x, hx, rfl⟩
  · exact Or.inr ⟨_, _, _, fB_again_b1 g w a0 hy, cI2, fun E t1 n1 h M => fR_again_b1 h M a0 hy⟩
  · rcases bad_or a0 (N := s_M s) (by omega) with hy | ⟨m, hm, rfl⟩
    · exact Or.inr ⟨_, _, _, fB_again_b2 g w hx hy, cI2, fun E t1 n1 h M => fR_again_b2 h M w hx hy⟩
    · by_cases hb : s_cond s m ≠ 0 ∨ s_kept s m x = false ∨ 200 ≤ (s_acks s).length
      · exact Or.inr ⟨_, _, _, fB_again_n g w hx hm hb, cS2, fun E t1 n1 h M => fR_again_n h M w hx hm hb⟩
      · have h1 : s_cond s m = 0 := Classical.byContradiction fun z => hb (Or.inl z)
        have h2 : s_kept s m x = true := by
          cases z : s_kept s m x with
          | true => rfl
          | false => exact absurd (Or.inr (Or.inl z)) hb
        have h3 : (s_acks s).length < 200 := Nat.lt_of_not_le fun z => hb (Or.inr (Or.inr z))
        exact Or.inl ⟨_, againS s m x, fB_again_g g w hx hm h1 h2 h3, hv.again hm hx h3, ⟨rfl, rfl⟩, fun E t1 n1 h M => fR_again_g h M w hx hm h1 h2 h3⟩
theorem st_restore (a0 : Int32) : LInt InvW (fun V n q => fB_restore V n q a0) (fun V n m => fR_restore V n m a0) [("java/lang/IndexOutOfBoundsException", 1), ("java/lang/IllegalStateException", 2)] := op_int fun e t s n S => by
  obtain ⟨hR, hM, g, hv, hG⟩ := S
  have w := hv.1
  have hN8 := w.N8; have hC16 := w.C; have hM40 := w.M
  rcases bad_or a0 (N := s_M s) (by omega) with hx | ⟨m, hm, rfl⟩
  · exact Or.inr ⟨_, _, _, fB_restore_b g hx, cI2, fun E t1 n1 h M => fR_restore_b h M hx⟩
  · by_cases hb : s_cond s m = 1
    · exact Or.inl ⟨_, restoreS s m, fB_restore_g g w hm hb, hv.restore hm, rest_MC m, fun E t1 n1 h M => fR_restore_g h M w hm hb⟩
    · exact Or.inr ⟨_, _, _, fB_restore_n g w hm hb, cS2, fun E t1 n1 h M => fR_restore_n h M w hm hb⟩
theorem st_turn (a0 : Int32) : LInt InvW (fun V n q => fB_turn V n q a0) (fun V n m => fR_turn V n m a0) [("java/lang/IndexOutOfBoundsException", 1)] := op_int fun e t s n S => by
  obtain ⟨hR, hM, g, hv, hG⟩ := S
  have w := hv.1
  have hN8 := w.N8; have hC16 := w.C; have hM40 := w.M
  by_cases h1 : a0 = -1
  · rw [h1]
    exact Or.inl ⟨_, (keeperS s).2, fB_turn_k g w, hv.keeper, keeper_MC, fun E t1 n1 h M => fR_turn_k h M w⟩
  · rcases bad_or a0 (N := s_N s) (by omega) with hx | ⟨x, hx, rfl⟩
    · exact Or.inr ⟨_, _, _, fB_turn_b g w h1 hx, cI1, fun E t1 n1 h M => fR_turn_b h M h1 hx⟩
    · exact Or.inl ⟨_, (goS s x).2, fB_turn_g g w hx (fun he => hv.gc hx he), hv.go hx, go_MC w x, fun E t1 n1 h M => fR_turn_g h M hv.gd hx⟩
theorem st_play (a0 : Int64) (a1 : Int32) : LInt InvW (fun V n q => fB_play V n q a0 a1) (fun V n m => fR_play V n m a0 a1) [("java/lang/IllegalArgumentException", 1)] := op_int fun e t s n S => by
  obtain ⟨hR, hM, g, hv, hG⟩ := S
  have w := hv.1
  have hN8 := w.N8; have hC16 := w.C; have hM40 := w.M
  by_cases hx : a1 < 1 ∨ 2000 < a1
  · exact Or.inr ⟨_, _, _, fB_play_b g a0 hx, cA5, fun E t1 n1 h M => fR_play_b h M a0 hx⟩
  · have h0 : ¬ (a1 < 0 ∨ nI 2000 < a1) := fun z => hx (z.imp (fun y => Int32.lt_of_lt_of_le y (by decide)) (fun y => y))
    obtain ⟨T, hT, rfl⟩ := i32_two (k := 2000) (by decide) h0
    have hT1 : 1 ≤ T := Nat.le_of_not_lt fun z => hx (Or.inl (by
      rw [show T = 0 by omega]
      decide))
    obtain ⟨p1, p2⟩ := play_Iv hv T a0 0
    exact Or.inl ⟨_, (playS T s a0 0).2, fB_play_g g Iv (fun s' h' => ⟨h'.1, fun x hx he => h'.gc hx he⟩) (fun s' h' => h'.keeper) (fun s' x h' hx => h'.go hx) hv a0 hT1 hT, p1, p2, fun E t1 n1 h M => fR_play_g h M Iv (fun s' h' => h'.gd) (fun s' h' => h'.keeper) (fun s' x h' hx => h'.go hx) hv a0 hT1 hT⟩
theorem st_fails (a0 : Int32) (a1 : Int32) : LVoid InvW (fun V n q => fB_fails V n q a0 a1) (fun V n m => fR_fails V n m a0 a1) [("java/lang/IndexOutOfBoundsException", 1), ("java/lang/IllegalStateException", 2)] := op_void fun e t s n S => by
  obtain ⟨hR, hM, g, hv, hG⟩ := S
  have w := hv.1
  have hN8 := w.N8; have hC16 := w.C; have hM40 := w.M
  rcases bad_or a0 (N := s_N s) (by omega) with hy | ⟨x, hx, rfl⟩
  · exact Or.inr ⟨_, _, fB_fails_b1 g w a1 hy, cI2, fun E t1 n1 h M => fR_fails_b1 h M a1 hy⟩
  · rcases bad_or a1 (N := s_M s) (by omega) with hy | ⟨m, hm, rfl⟩
    · exact Or.inr ⟨_, _, fB_fails_b2 g w hx hy, cI2, fun E t1 n1 h M => fR_fails_b2 h M w hx hy⟩
    · by_cases hb : s_cond s m ≠ 0 ∨ s_kept s m x = true ∨ s_fails s m x = true
      · exact Or.inr ⟨_, _, fB_fails_n g w hx hm hb, cS2, fun E t1 n1 h M => fR_fails_n h M w hx hm hb⟩
      · have h1 : s_cond s m = 0 := Classical.byContradiction fun z => hb (Or.inl z)
        have h2 : s_kept s m x = false := by
          cases z : s_kept s m x with
          | false => rfl
          | true => exact absurd (Or.inr (Or.inl z)) hb
        have h3 : s_fails s m x = false := by
          cases z : s_fails s m x with
          | false => rfl
          | true => exact absurd (Or.inr (Or.inr z)) hb
        exact Or.inl ⟨failsS s m x, fB_fails_g g w hx hm h1 h2 h3, hv.fails hm, ⟨rfl, rfl⟩, fun E t1 n1 h M => fR_fails_g h M w hx hm h1 h2 h3⟩
