/-! steps of the mathematical state: what they leave and what they change -/
def isB (m : Nat) (z : Nat × Int64) : Bool := z.1 == 1 && z.2 == lN m
def closeP (s : zSt) (m c : Nat) : zSt := u_q (u_held s (fun j => if j < c ∧ s_held s j = some m then none else s_held s j)) (fun j => if j < c then (s_q s j).filter (fun z => !isB m z) else s_q s j)
theorem z_closeP_N (s : zSt) (m c : Nat) : s_N (closeP s m c) = s_N s := by
  unfold closeP; rw [y_N_q, y_N_held]
theorem z_closeP_C (s : zSt) (m c : Nat) : s_C (closeP s m c) = s_C s := by
  unfold closeP; rw [y_C_q, y_C_held]
theorem z_closeP_fr (s : zSt) (m c : Nat) : s_fr (closeP s m c) = s_fr s := by
  unfold closeP; rw [y_fr_q, y_fr_held]
theorem z_closeP_to (s : zSt) (m c : Nat) : s_to (closeP s m c) = s_to s := by
  unfold closeP; rw [y_to_q, y_to_held]
theorem z_closeP_tol (s : zSt) (m c : Nat) : s_tol (closeP s m c) = s_tol s := by
  unfold closeP; rw [y_tol_q, y_tol_held]
theorem z_closeP_sum (s : zSt) (m c : Nat) : s_sum (closeP s m c) = s_sum s := by
  unfold closeP; rw [y_sum_q, y_sum_held]
theorem z_closeP_rows (s : zSt) (m c : Nat) : s_rows (closeP s m c) = s_rows s := by
  unfold closeP; rw [y_rows_q, y_rows_held]
theorem z_closeP_ended (s : zSt) (m c : Nat) : s_ended (closeP s m c) = s_ended s := by
  unfold closeP; rw [y_ended_q, y_ended_held]
theorem z_closeP_latest (s : zSt) (m c : Nat) : s_latest (closeP s m c) = s_latest s := by
  unfold closeP; rw [y_latest_q, y_latest_held]
theorem z_closeP_q (s : zSt) (m c : Nat) : s_q (closeP s m c) = (fun j => if j < c then (s_q s j).filter (fun z => !isB m z) else s_q s j) := by
  unfold closeP; rw [su_q]
theorem z_closeP_log (s : zSt) (m c : Nat) : s_log (closeP s m c) = s_log s := by
  unfold closeP; rw [y_log_q, y_log_held]
theorem z_closeP_fin (s : zSt) (m c : Nat) : s_fin (closeP s m c) = s_fin s := by
  unfold closeP; rw [y_fin_q, y_fin_held]
theorem z_closeP_stand (s : zSt) (m c : Nat) : s_stand (closeP s m c) = s_stand s := by
  unfold closeP; rw [y_stand_q, y_stand_held]
theorem z_closeP_over (s : zSt) (m c : Nat) : s_over (closeP s m c) = s_over s := by
  unfold closeP; rw [y_over_q, y_over_held]
theorem z_closeP_held (s : zSt) (m c : Nat) : s_held (closeP s m c) = (fun j => if j < c ∧ s_held s j = some m then none else s_held s j) := by
  unfold closeP; rw [y_held_q, su_held]
theorem z_closeP_M (s : zSt) (m c : Nat) : s_M (closeP s m c) = s_M s := by
  unfold closeP; rw [y_M_q, y_M_held]
theorem z_closeP_cond (s : zSt) (m c : Nat) : s_cond (closeP s m c) = s_cond s := by
  unfold closeP; rw [y_cond_q, y_cond_held]
theorem z_closeP_pos (s : zSt) (m c : Nat) : s_pos (closeP s m c) = s_pos s := by
  unfold closeP; rw [y_pos_q, y_pos_held]
theorem z_closeP_came (s : zSt) (m c : Nat) : s_came (closeP s m c) = s_came s := by
  unfold closeP; rw [y_came_q, y_came_held]
theorem z_closeP_kept (s : zSt) (m c : Nat) : s_kept (closeP s m c) = s_kept s := by
  unfold closeP; rw [y_kept_q, y_kept_held]
theorem z_closeP_kEnd (s : zSt) (m c : Nat) : s_kEnd (closeP s m c) = s_kEnd s := by
  unfold closeP; rw [y_kEnd_q, y_kEnd_held]
theorem z_closeP_kSum (s : zSt) (m c : Nat) : s_kSum (closeP s m c) = s_kSum s := by
  unfold closeP; rw [y_kSum_q, y_kSum_held]
theorem z_closeP_kRows (s : zSt) (m c : Nat) : s_kRows (closeP s m c) = s_kRows s := by
  unfold closeP; rw [y_kRows_q, y_kRows_held]
theorem z_closeP_fails (s : zSt) (m c : Nat) : s_fails (closeP s m c) = s_fails s := by
  unfold closeP; rw [y_fails_q, y_fails_held]
theorem z_closeP_taken (s : zSt) (m c : Nat) : s_taken (closeP s m c) = s_taken s := by
  unfold closeP; rw [y_taken_q, y_taken_held]
theorem z_closeP_acks (s : zSt) (m c : Nat) : s_acks (closeP s m c) = s_acks s := by
  unfold closeP; rw [y_acks_q, y_acks_held]
theorem z_closeS_N (s : zSt) (m how : Nat) : s_N (closeS s m how) = s_N s := by
  unfold closeS; rw [y_N_q, y_N_held, y_N_cond]
theorem z_closeS_C (s : zSt) (m how : Nat) : s_C (closeS s m how) = s_C s := by
  unfold closeS; rw [y_C_q, y_C_held, y_C_cond]
theorem z_closeS_fr (s : zSt) (m how : Nat) : s_fr (closeS s m how) = s_fr s := by
  unfold closeS; rw [y_fr_q, y_fr_held, y_fr_cond]
theorem z_closeS_to (s : zSt) (m how : Nat) : s_to (closeS s m how) = s_to s := by
  unfold closeS; rw [y_to_q, y_to_held, y_to_cond]
theorem z_closeS_tol (s : zSt) (m how : Nat) : s_tol (closeS s m how) = s_tol s := by
  unfold closeS; rw [y_tol_q, y_tol_held, y_tol_cond]
theorem z_closeS_sum (s : zSt) (m how : Nat) : s_sum (closeS s m how) = s_sum s := by
  unfold closeS; rw [y_sum_q, y_sum_held, y_sum_cond]
theorem z_closeS_rows (s : zSt) (m how : Nat) : s_rows (closeS s m how) = s_rows s := by
  unfold closeS; rw [y_rows_q, y_rows_held, y_rows_cond]
theorem z_closeS_ended (s : zSt) (m how : Nat) : s_ended (closeS s m how) = s_ended s := by
  unfold closeS; rw [y_ended_q, y_ended_held, y_ended_cond]
theorem z_closeS_latest (s : zSt) (m how : Nat) : s_latest (closeS s m how) = s_latest s := by
  unfold closeS; rw [y_latest_q, y_latest_held, y_latest_cond]
theorem z_closeS_q (s : zSt) (m how : Nat) : s_q (closeS s m how) = (fun c => if c < s_C s then (s_q s c).filter (fun z => !(z.1 == 1 && z.2 == lN m)) else s_q s c) := by
  unfold closeS; rw [su_q]
theorem z_closeS_log (s : zSt) (m how : Nat) : s_log (closeS s m how) = s_log s := by
  unfold closeS; rw [y_log_q, y_log_held, y_log_cond]
theorem z_closeS_fin (s : zSt) (m how : Nat) : s_fin (closeS s m how) = s_fin s := by
  unfold closeS; rw [y_fin_q, y_fin_held, y_fin_cond]
theorem z_closeS_stand (s : zSt) (m how : Nat) : s_stand (closeS s m how) = s_stand s := by
  unfold closeS; rw [y_stand_q, y_stand_held, y_stand_cond]
theorem z_closeS_over (s : zSt) (m how : Nat) : s_over (closeS s m how) = s_over s := by
  unfold closeS; rw [y_over_q, y_over_held, y_over_cond]
theorem z_closeS_held (s : zSt) (m how : Nat) : s_held (closeS s m how) = (fun c => if c < s_C s ∧ s_held s c = some m then none else s_held s c) := by
  unfold closeS; rw [y_held_q, su_held]
theorem z_closeS_M (s : zSt) (m how : Nat) : s_M (closeS s m how) = s_M s := by
  unfold closeS; rw [y_M_q, y_M_held, y_M_cond]
theorem z_closeS_cond (s : zSt) (m how : Nat) : s_cond (closeS s m how) = (fu (s_cond s) m how) := by
  unfold closeS; rw [y_cond_q, y_cond_held, su_cond]
theorem z_closeS_pos (s : zSt) (m how : Nat) : s_pos (closeS s m how) = s_pos s := by
  unfold closeS; rw [y_pos_q, y_pos_held, y_pos_cond]
theorem z_closeS_came (s : zSt) (m how : Nat) : s_came (closeS s m how) = s_came s := by
  unfold closeS; rw [y_came_q, y_came_held, y_came_cond]
theorem z_closeS_kept (s : zSt) (m how : Nat) : s_kept (closeS s m how) = s_kept s := by
  unfold closeS; rw [y_kept_q, y_kept_held, y_kept_cond]
theorem z_closeS_kEnd (s : zSt) (m how : Nat) : s_kEnd (closeS s m how) = s_kEnd s := by
  unfold closeS; rw [y_kEnd_q, y_kEnd_held, y_kEnd_cond]
theorem z_closeS_kSum (s : zSt) (m how : Nat) : s_kSum (closeS s m how) = s_kSum s := by
  unfold closeS; rw [y_kSum_q, y_kSum_held, y_kSum_cond]
theorem z_closeS_kRows (s : zSt) (m how : Nat) : s_kRows (closeS s m how) = s_kRows s := by
  unfold closeS; rw [y_kRows_q, y_kRows_held, y_kRows_cond]
theorem z_closeS_fails (s : zSt) (m how : Nat) : s_fails (closeS s m how) = s_fails s := by
  unfold closeS; rw [y_fails_q, y_fails_held, y_fails_cond]
theorem z_closeS_taken (s : zSt) (m how : Nat) : s_taken (closeS s m how) = s_taken s := by
  unfold closeS; rw [y_taken_q, y_taken_held, y_taken_cond]
theorem z_closeS_acks (s : zSt) (m how : Nat) : s_acks (closeS s m how) = s_acks s := by
  unfold closeS; rw [y_acks_q, y_acks_held, y_acks_cond]
def giveP (s : zSt) (x k : Nat) (v : Int64) (c : Nat) : zSt := u_q s (fun j => if j < c ∧ s_fr s j = some x then s_q s j ++ [(k, v)] else s_q s j)
theorem z_giveP_N (s : zSt) (x k : Nat) (v : Int64) (c : Nat) : s_N (giveP s x k v c) = s_N s := by
  unfold giveP; rw [y_N_q]
theorem z_giveP_C (s : zSt) (x k : Nat) (v : Int64) (c : Nat) : s_C (giveP s x k v c) = s_C s := by
  unfold giveP; rw [y_C_q]
theorem z_giveP_fr (s : zSt) (x k : Nat) (v : Int64) (c : Nat) : s_fr (giveP s x k v c) = s_fr s := by
  unfold giveP; rw [y_fr_q]
theorem z_giveP_to (s : zSt) (x k : Nat) (v : Int64) (c : Nat) : s_to (giveP s x k v c) = s_to s := by
  unfold giveP; rw [y_to_q]
theorem z_giveP_tol (s : zSt) (x k : Nat) (v : Int64) (c : Nat) : s_tol (giveP s x k v c) = s_tol s := by
  unfold giveP; rw [y_tol_q]
theorem z_giveP_sum (s : zSt) (x k : Nat) (v : Int64) (c : Nat) : s_sum (giveP s x k v c) = s_sum s := by
  unfold giveP; rw [y_sum_q]
theorem z_giveP_rows (s : zSt) (x k : Nat) (v : Int64) (c : Nat) : s_rows (giveP s x k v c) = s_rows s := by
  unfold giveP; rw [y_rows_q]
theorem z_giveP_ended (s : zSt) (x k : Nat) (v : Int64) (c : Nat) : s_ended (giveP s x k v c) = s_ended s := by
  unfold giveP; rw [y_ended_q]
theorem z_giveP_latest (s : zSt) (x k : Nat) (v : Int64) (c : Nat) : s_latest (giveP s x k v c) = s_latest s := by
  unfold giveP; rw [y_latest_q]
theorem z_giveP_q (s : zSt) (x k : Nat) (v : Int64) (c : Nat) : s_q (giveP s x k v c) = (fun j => if j < c ∧ s_fr s j = some x then s_q s j ++ [(k, v)] else s_q s j) := by
  unfold giveP; rw [su_q]
theorem z_giveP_log (s : zSt) (x k : Nat) (v : Int64) (c : Nat) : s_log (giveP s x k v c) = s_log s := by
  unfold giveP; rw [y_log_q]
theorem z_giveP_fin (s : zSt) (x k : Nat) (v : Int64) (c : Nat) : s_fin (giveP s x k v c) = s_fin s := by
  unfold giveP; rw [y_fin_q]
theorem z_giveP_stand (s : zSt) (x k : Nat) (v : Int64) (c : Nat) : s_stand (giveP s x k v c) = s_stand s := by
  unfold giveP; rw [y_stand_q]
theorem z_giveP_over (s : zSt) (x k : Nat) (v : Int64) (c : Nat) : s_over (giveP s x k v c) = s_over s := by
  unfold giveP; rw [y_over_q]
theorem z_giveP_held (s : zSt) (x k : Nat) (v : Int64) (c : Nat) : s_held (giveP s x k v c) = s_held s := by
  unfold giveP; rw [y_held_q]
theorem z_giveP_M (s : zSt) (x k : Nat) (v : Int64) (c : Nat) : s_M (giveP s x k v c) = s_M s := by
  unfold giveP; rw [y_M_q]
theorem z_giveP_cond (s : zSt) (x k : Nat) (v : Int64) (c : Nat) : s_cond (giveP s x k v c) = s_cond s := by
  unfold giveP; rw [y_cond_q]
theorem z_giveP_pos (s : zSt) (x k : Nat) (v : Int64) (c : Nat) : s_pos (giveP s x k v c) = s_pos s := by
  unfold giveP; rw [y_pos_q]
theorem z_giveP_came (s : zSt) (x k : Nat) (v : Int64) (c : Nat) : s_came (giveP s x k v c) = s_came s := by
  unfold giveP; rw [y_came_q]
theorem z_giveP_kept (s : zSt) (x k : Nat) (v : Int64) (c : Nat) : s_kept (giveP s x k v c) = s_kept s := by
  unfold giveP; rw [y_kept_q]
theorem z_giveP_kEnd (s : zSt) (x k : Nat) (v : Int64) (c : Nat) : s_kEnd (giveP s x k v c) = s_kEnd s := by
  unfold giveP; rw [y_kEnd_q]
theorem z_giveP_kSum (s : zSt) (x k : Nat) (v : Int64) (c : Nat) : s_kSum (giveP s x k v c) = s_kSum s := by
  unfold giveP; rw [y_kSum_q]
theorem z_giveP_kRows (s : zSt) (x k : Nat) (v : Int64) (c : Nat) : s_kRows (giveP s x k v c) = s_kRows s := by
  unfold giveP; rw [y_kRows_q]
theorem z_giveP_fails (s : zSt) (x k : Nat) (v : Int64) (c : Nat) : s_fails (giveP s x k v c) = s_fails s := by
  unfold giveP; rw [y_fails_q]
theorem z_giveP_taken (s : zSt) (x k : Nat) (v : Int64) (c : Nat) : s_taken (giveP s x k v c) = s_taken s := by
  unfold giveP; rw [y_taken_q]
theorem z_giveP_acks (s : zSt) (x k : Nat) (v : Int64) (c : Nat) : s_acks (giveP s x k v c) = s_acks s := by
  unfold giveP; rw [y_acks_q]
theorem z_giveS_N (s : zSt) (t k : Nat) (v : Int64) : s_N (giveS s t k v) = s_N s := by
  unfold giveS; rw [y_N_q]
theorem z_giveS_C (s : zSt) (t k : Nat) (v : Int64) : s_C (giveS s t k v) = s_C s := by
  unfold giveS; rw [y_C_q]
theorem z_giveS_fr (s : zSt) (t k : Nat) (v : Int64) : s_fr (giveS s t k v) = s_fr s := by
  unfold giveS; rw [y_fr_q]
theorem z_giveS_to (s : zSt) (t k : Nat) (v : Int64) : s_to (giveS s t k v) = s_to s := by
  unfold giveS; rw [y_to_q]
theorem z_giveS_tol (s : zSt) (t k : Nat) (v : Int64) : s_tol (giveS s t k v) = s_tol s := by
  unfold giveS; rw [y_tol_q]
theorem z_giveS_sum (s : zSt) (t k : Nat) (v : Int64) : s_sum (giveS s t k v) = s_sum s := by
  unfold giveS; rw [y_sum_q]
theorem z_giveS_rows (s : zSt) (t k : Nat) (v : Int64) : s_rows (giveS s t k v) = s_rows s := by
  unfold giveS; rw [y_rows_q]
theorem z_giveS_ended (s : zSt) (t k : Nat) (v : Int64) : s_ended (giveS s t k v) = s_ended s := by
  unfold giveS; rw [y_ended_q]
theorem z_giveS_latest (s : zSt) (t k : Nat) (v : Int64) : s_latest (giveS s t k v) = s_latest s := by
  unfold giveS; rw [y_latest_q]
theorem z_giveS_q (s : zSt) (t k : Nat) (v : Int64) : s_q (giveS s t k v) = (fun c => if c < s_C s ∧ s_fr s c = some t then s_q s c ++ [(k, v)] else s_q s c) := by
  unfold giveS; rw [su_q]
theorem z_giveS_log (s : zSt) (t k : Nat) (v : Int64) : s_log (giveS s t k v) = s_log s := by
  unfold giveS; rw [y_log_q]
theorem z_giveS_fin (s : zSt) (t k : Nat) (v : Int64) : s_fin (giveS s t k v) = s_fin s := by
  unfold giveS; rw [y_fin_q]
theorem z_giveS_stand (s : zSt) (t k : Nat) (v : Int64) : s_stand (giveS s t k v) = s_stand s := by
  unfold giveS; rw [y_stand_q]
theorem z_giveS_over (s : zSt) (t k : Nat) (v : Int64) : s_over (giveS s t k v) = s_over s := by
  unfold giveS; rw [y_over_q]
theorem z_giveS_held (s : zSt) (t k : Nat) (v : Int64) : s_held (giveS s t k v) = s_held s := by
  unfold giveS; rw [y_held_q]
theorem z_giveS_M (s : zSt) (t k : Nat) (v : Int64) : s_M (giveS s t k v) = s_M s := by
  unfold giveS; rw [y_M_q]
theorem z_giveS_cond (s : zSt) (t k : Nat) (v : Int64) : s_cond (giveS s t k v) = s_cond s := by
  unfold giveS; rw [y_cond_q]
theorem z_giveS_pos (s : zSt) (t k : Nat) (v : Int64) : s_pos (giveS s t k v) = s_pos s := by
  unfold giveS; rw [y_pos_q]
theorem z_giveS_came (s : zSt) (t k : Nat) (v : Int64) : s_came (giveS s t k v) = s_came s := by
  unfold giveS; rw [y_came_q]
theorem z_giveS_kept (s : zSt) (t k : Nat) (v : Int64) : s_kept (giveS s t k v) = s_kept s := by
  unfold giveS; rw [y_kept_q]
theorem z_giveS_kEnd (s : zSt) (t k : Nat) (v : Int64) : s_kEnd (giveS s t k v) = s_kEnd s := by
  unfold giveS; rw [y_kEnd_q]
theorem z_giveS_kSum (s : zSt) (t k : Nat) (v : Int64) : s_kSum (giveS s t k v) = s_kSum s := by
  unfold giveS; rw [y_kSum_q]
theorem z_giveS_kRows (s : zSt) (t k : Nat) (v : Int64) : s_kRows (giveS s t k v) = s_kRows s := by
  unfold giveS; rw [y_kRows_q]
theorem z_giveS_fails (s : zSt) (t k : Nat) (v : Int64) : s_fails (giveS s t k v) = s_fails s := by
  unfold giveS; rw [y_fails_q]
theorem z_giveS_taken (s : zSt) (t k : Nat) (v : Int64) : s_taken (giveS s t k v) = s_taken s := by
  unfold giveS; rw [y_taken_q]
theorem z_giveS_acks (s : zSt) (t k : Nat) (v : Int64) : s_acks (giveS s t k v) = s_acks s := by
  unfold giveS; rw [y_acks_q]
theorem z_keepS_N (s : zSt) (m t : Nat) : s_N (keepS s m t) = s_N s := by
  unfold keepS; rw [y_N_acks, y_N_kRows, y_N_kSum, y_N_kEnd, y_N_kept]
theorem z_keepS_C (s : zSt) (m t : Nat) : s_C (keepS s m t) = s_C s := by
  unfold keepS; rw [y_C_acks, y_C_kRows, y_C_kSum, y_C_kEnd, y_C_kept]
theorem z_keepS_fr (s : zSt) (m t : Nat) : s_fr (keepS s m t) = s_fr s := by
  unfold keepS; rw [y_fr_acks, y_fr_kRows, y_fr_kSum, y_fr_kEnd, y_fr_kept]
theorem z_keepS_to (s : zSt) (m t : Nat) : s_to (keepS s m t) = s_to s := by
  unfold keepS; rw [y_to_acks, y_to_kRows, y_to_kSum, y_to_kEnd, y_to_kept]
theorem z_keepS_tol (s : zSt) (m t : Nat) : s_tol (keepS s m t) = s_tol s := by
  unfold keepS; rw [y_tol_acks, y_tol_kRows, y_tol_kSum, y_tol_kEnd, y_tol_kept]
theorem z_keepS_sum (s : zSt) (m t : Nat) : s_sum (keepS s m t) = s_sum s := by
  unfold keepS; rw [y_sum_acks, y_sum_kRows, y_sum_kSum, y_sum_kEnd, y_sum_kept]
theorem z_keepS_rows (s : zSt) (m t : Nat) : s_rows (keepS s m t) = s_rows s := by
  unfold keepS; rw [y_rows_acks, y_rows_kRows, y_rows_kSum, y_rows_kEnd, y_rows_kept]
theorem z_keepS_ended (s : zSt) (m t : Nat) : s_ended (keepS s m t) = s_ended s := by
  unfold keepS; rw [y_ended_acks, y_ended_kRows, y_ended_kSum, y_ended_kEnd, y_ended_kept]
theorem z_keepS_latest (s : zSt) (m t : Nat) : s_latest (keepS s m t) = s_latest s := by
  unfold keepS; rw [y_latest_acks, y_latest_kRows, y_latest_kSum, y_latest_kEnd, y_latest_kept]
theorem z_keepS_q (s : zSt) (m t : Nat) : s_q (keepS s m t) = s_q s := by
  unfold keepS; rw [y_q_acks, y_q_kRows, y_q_kSum, y_q_kEnd, y_q_kept]
theorem z_keepS_log (s : zSt) (m t : Nat) : s_log (keepS s m t) = s_log s := by
  unfold keepS; rw [y_log_acks, y_log_kRows, y_log_kSum, y_log_kEnd, y_log_kept]
theorem z_keepS_fin (s : zSt) (m t : Nat) : s_fin (keepS s m t) = s_fin s := by
  unfold keepS; rw [y_fin_acks, y_fin_kRows, y_fin_kSum, y_fin_kEnd, y_fin_kept]
theorem z_keepS_stand (s : zSt) (m t : Nat) : s_stand (keepS s m t) = s_stand s := by
  unfold keepS; rw [y_stand_acks, y_stand_kRows, y_stand_kSum, y_stand_kEnd, y_stand_kept]
theorem z_keepS_over (s : zSt) (m t : Nat) : s_over (keepS s m t) = s_over s := by
  unfold keepS; rw [y_over_acks, y_over_kRows, y_over_kSum, y_over_kEnd, y_over_kept]
theorem z_keepS_held (s : zSt) (m t : Nat) : s_held (keepS s m t) = s_held s := by
  unfold keepS; rw [y_held_acks, y_held_kRows, y_held_kSum, y_held_kEnd, y_held_kept]
theorem z_keepS_M (s : zSt) (m t : Nat) : s_M (keepS s m t) = s_M s := by
  unfold keepS; rw [y_M_acks, y_M_kRows, y_M_kSum, y_M_kEnd, y_M_kept]
theorem z_keepS_cond (s : zSt) (m t : Nat) : s_cond (keepS s m t) = s_cond s := by
  unfold keepS; rw [y_cond_acks, y_cond_kRows, y_cond_kSum, y_cond_kEnd, y_cond_kept]
theorem z_keepS_pos (s : zSt) (m t : Nat) : s_pos (keepS s m t) = s_pos s := by
  unfold keepS; rw [y_pos_acks, y_pos_kRows, y_pos_kSum, y_pos_kEnd, y_pos_kept]
theorem z_keepS_came (s : zSt) (m t : Nat) : s_came (keepS s m t) = s_came s := by
  unfold keepS; rw [y_came_acks, y_came_kRows, y_came_kSum, y_came_kEnd, y_came_kept]
theorem z_keepS_kept (s : zSt) (m t : Nat) : s_kept (keepS s m t) = (fu2 (s_kept s) m t true) := by
  unfold keepS; rw [y_kept_acks, y_kept_kRows, y_kept_kSum, y_kept_kEnd, su_kept]
theorem z_keepS_kEnd (s : zSt) (m t : Nat) : s_kEnd (keepS s m t) = (fu2 (s_kEnd s) m t (s_ended s t)) := by
  unfold keepS; rw [y_kEnd_acks, y_kEnd_kRows, y_kEnd_kSum, su_kEnd]
theorem z_keepS_kSum (s : zSt) (m t : Nat) : s_kSum (keepS s m t) = (fu2 (s_kSum s) m t (s_sum s t)) := by
  unfold keepS; rw [y_kSum_acks, y_kSum_kRows, su_kSum]
theorem z_keepS_kRows (s : zSt) (m t : Nat) : s_kRows (keepS s m t) = (fu2 (s_kRows s) m t (s_rows s t)) := by
  unfold keepS; rw [y_kRows_acks, su_kRows]
theorem z_keepS_fails (s : zSt) (m t : Nat) : s_fails (keepS s m t) = s_fails s := by
  unfold keepS; rw [y_fails_acks, y_fails_kRows, y_fails_kSum, y_fails_kEnd, y_fails_kept]
theorem z_keepS_taken (s : zSt) (m t : Nat) : s_taken (keepS s m t) = s_taken s := by
  unfold keepS; rw [y_taken_acks, y_taken_kRows, y_taken_kSum, y_taken_kEnd, y_taken_kept]
theorem z_keepS_acks (s : zSt) (m t : Nat) : s_acks (keepS s m t) = (s_acks s ++ [(m, t)]) := by
  unfold keepS; rw [su_acks]
def letGoS (s : zSt) (x c : Nat) : zSt := u_held s (fun j => if j < c ∧ s_to s j = x then none else s_held s j)
theorem z_letGoS_N (s : zSt) (x c : Nat) : s_N (letGoS s x c) = s_N s := by
  unfold letGoS; rw [y_N_held]
theorem z_letGoS_C (s : zSt) (x c : Nat) : s_C (letGoS s x c) = s_C s := by
  unfold letGoS; rw [y_C_held]
theorem z_letGoS_fr (s : zSt) (x c : Nat) : s_fr (letGoS s x c) = s_fr s := by
  unfold letGoS; rw [y_fr_held]
theorem z_letGoS_to (s : zSt) (x c : Nat) : s_to (letGoS s x c) = s_to s := by
  unfold letGoS; rw [y_to_held]
theorem z_letGoS_tol (s : zSt) (x c : Nat) : s_tol (letGoS s x c) = s_tol s := by
  unfold letGoS; rw [y_tol_held]
theorem z_letGoS_sum (s : zSt) (x c : Nat) : s_sum (letGoS s x c) = s_sum s := by
  unfold letGoS; rw [y_sum_held]
theorem z_letGoS_rows (s : zSt) (x c : Nat) : s_rows (letGoS s x c) = s_rows s := by
  unfold letGoS; rw [y_rows_held]
theorem z_letGoS_ended (s : zSt) (x c : Nat) : s_ended (letGoS s x c) = s_ended s := by
  unfold letGoS; rw [y_ended_held]
theorem z_letGoS_latest (s : zSt) (x c : Nat) : s_latest (letGoS s x c) = s_latest s := by
  unfold letGoS; rw [y_latest_held]
theorem z_letGoS_q (s : zSt) (x c : Nat) : s_q (letGoS s x c) = s_q s := by
  unfold letGoS; rw [y_q_held]
theorem z_letGoS_log (s : zSt) (x c : Nat) : s_log (letGoS s x c) = s_log s := by
  unfold letGoS; rw [y_log_held]
theorem z_letGoS_fin (s : zSt) (x c : Nat) : s_fin (letGoS s x c) = s_fin s := by
  unfold letGoS; rw [y_fin_held]
theorem z_letGoS_stand (s : zSt) (x c : Nat) : s_stand (letGoS s x c) = s_stand s := by
  unfold letGoS; rw [y_stand_held]
theorem z_letGoS_over (s : zSt) (x c : Nat) : s_over (letGoS s x c) = s_over s := by
  unfold letGoS; rw [y_over_held]
theorem z_letGoS_held (s : zSt) (x c : Nat) : s_held (letGoS s x c) = (fun j => if j < c ∧ s_to s j = x then none else s_held s j) := by
  unfold letGoS; rw [su_held]
theorem z_letGoS_M (s : zSt) (x c : Nat) : s_M (letGoS s x c) = s_M s := by
  unfold letGoS; rw [y_M_held]
theorem z_letGoS_cond (s : zSt) (x c : Nat) : s_cond (letGoS s x c) = s_cond s := by
  unfold letGoS; rw [y_cond_held]
theorem z_letGoS_pos (s : zSt) (x c : Nat) : s_pos (letGoS s x c) = s_pos s := by
  unfold letGoS; rw [y_pos_held]
theorem z_letGoS_came (s : zSt) (x c : Nat) : s_came (letGoS s x c) = s_came s := by
  unfold letGoS; rw [y_came_held]
theorem z_letGoS_kept (s : zSt) (x c : Nat) : s_kept (letGoS s x c) = s_kept s := by
  unfold letGoS; rw [y_kept_held]
theorem z_letGoS_kEnd (s : zSt) (x c : Nat) : s_kEnd (letGoS s x c) = s_kEnd s := by
  unfold letGoS; rw [y_kEnd_held]
theorem z_letGoS_kSum (s : zSt) (x c : Nat) : s_kSum (letGoS s x c) = s_kSum s := by
  unfold letGoS; rw [y_kSum_held]
theorem z_letGoS_kRows (s : zSt) (x c : Nat) : s_kRows (letGoS s x c) = s_kRows s := by
  unfold letGoS; rw [y_kRows_held]
theorem z_letGoS_fails (s : zSt) (x c : Nat) : s_fails (letGoS s x c) = s_fails s := by
  unfold letGoS; rw [y_fails_held]
theorem z_letGoS_taken (s : zSt) (x c : Nat) : s_taken (letGoS s x c) = s_taken s := by
  unfold letGoS; rw [y_taken_held]
theorem z_letGoS_acks (s : zSt) (x c : Nat) : s_acks (letGoS s x c) = s_acks s := by
  unfold letGoS; rw [y_acks_held]
def posS (s : zSt) (m c : Nat) : zSt := u_pos s (fun a b => if a = m ∧ b < c then (s_log s b).length else s_pos s a b)
theorem z_posS_N (s : zSt) (m c : Nat) : s_N (posS s m c) = s_N s := by
  unfold posS; rw [y_N_pos]
theorem z_posS_C (s : zSt) (m c : Nat) : s_C (posS s m c) = s_C s := by
  unfold posS; rw [y_C_pos]
theorem z_posS_fr (s : zSt) (m c : Nat) : s_fr (posS s m c) = s_fr s := by
  unfold posS; rw [y_fr_pos]
theorem z_posS_to (s : zSt) (m c : Nat) : s_to (posS s m c) = s_to s := by
  unfold posS; rw [y_to_pos]
theorem z_posS_tol (s : zSt) (m c : Nat) : s_tol (posS s m c) = s_tol s := by
  unfold posS; rw [y_tol_pos]
theorem z_posS_sum (s : zSt) (m c : Nat) : s_sum (posS s m c) = s_sum s := by
  unfold posS; rw [y_sum_pos]
theorem z_posS_rows (s : zSt) (m c : Nat) : s_rows (posS s m c) = s_rows s := by
  unfold posS; rw [y_rows_pos]
theorem z_posS_ended (s : zSt) (m c : Nat) : s_ended (posS s m c) = s_ended s := by
  unfold posS; rw [y_ended_pos]
theorem z_posS_latest (s : zSt) (m c : Nat) : s_latest (posS s m c) = s_latest s := by
  unfold posS; rw [y_latest_pos]
theorem z_posS_q (s : zSt) (m c : Nat) : s_q (posS s m c) = s_q s := by
  unfold posS; rw [y_q_pos]
theorem z_posS_log (s : zSt) (m c : Nat) : s_log (posS s m c) = s_log s := by
  unfold posS; rw [y_log_pos]
theorem z_posS_fin (s : zSt) (m c : Nat) : s_fin (posS s m c) = s_fin s := by
  unfold posS; rw [y_fin_pos]
theorem z_posS_stand (s : zSt) (m c : Nat) : s_stand (posS s m c) = s_stand s := by
  unfold posS; rw [y_stand_pos]
theorem z_posS_over (s : zSt) (m c : Nat) : s_over (posS s m c) = s_over s := by
  unfold posS; rw [y_over_pos]
theorem z_posS_held (s : zSt) (m c : Nat) : s_held (posS s m c) = s_held s := by
  unfold posS; rw [y_held_pos]
theorem z_posS_M (s : zSt) (m c : Nat) : s_M (posS s m c) = s_M s := by
  unfold posS; rw [y_M_pos]
theorem z_posS_cond (s : zSt) (m c : Nat) : s_cond (posS s m c) = s_cond s := by
  unfold posS; rw [y_cond_pos]
theorem z_posS_pos (s : zSt) (m c : Nat) : s_pos (posS s m c) = (fun a b => if a = m ∧ b < c then (s_log s b).length else s_pos s a b) := by
  unfold posS; rw [su_pos]
theorem z_posS_came (s : zSt) (m c : Nat) : s_came (posS s m c) = s_came s := by
  unfold posS; rw [y_came_pos]
theorem z_posS_kept (s : zSt) (m c : Nat) : s_kept (posS s m c) = s_kept s := by
  unfold posS; rw [y_kept_pos]
theorem z_posS_kEnd (s : zSt) (m c : Nat) : s_kEnd (posS s m c) = s_kEnd s := by
  unfold posS; rw [y_kEnd_pos]
theorem z_posS_kSum (s : zSt) (m c : Nat) : s_kSum (posS s m c) = s_kSum s := by
  unfold posS; rw [y_kSum_pos]
theorem z_posS_kRows (s : zSt) (m c : Nat) : s_kRows (posS s m c) = s_kRows s := by
  unfold posS; rw [y_kRows_pos]
theorem z_posS_fails (s : zSt) (m c : Nat) : s_fails (posS s m c) = s_fails s := by
  unfold posS; rw [y_fails_pos]
theorem z_posS_taken (s : zSt) (m c : Nat) : s_taken (posS s m c) = s_taken s := by
  unfold posS; rw [y_taken_pos]
theorem z_posS_acks (s : zSt) (m c : Nat) : s_acks (posS s m c) = s_acks s := by
  unfold posS; rw [y_acks_pos]
def backT (s : zSt) (m c : Nat) : zSt := u_latest (u_ended (u_rows (u_sum s (fun x => if x < c then s_kSum s m x else s_sum s x)) (fun x => if x < c then s_kRows s m x else s_rows s x)) (fun x => if x < c then s_kEnd s m x else s_ended s x)) (fun x => if x < c then none else s_latest s x)
theorem z_backT_N (s : zSt) (m c : Nat) : s_N (backT s m c) = s_N s := by
  unfold backT; rw [y_N_latest, y_N_ended, y_N_rows, y_N_sum]
theorem z_backT_C (s : zSt) (m c : Nat) : s_C (backT s m c) = s_C s := by
  unfold backT; rw [y_C_latest, y_C_ended, y_C_rows, y_C_sum]
theorem z_backT_fr (s : zSt) (m c : Nat) : s_fr (backT s m c) = s_fr s := by
  unfold backT; rw [y_fr_latest, y_fr_ended, y_fr_rows, y_fr_sum]
theorem z_backT_to (s : zSt) (m c : Nat) : s_to (backT s m c) = s_to s := by
  unfold backT; rw [y_to_latest, y_to_ended, y_to_rows, y_to_sum]
theorem z_backT_tol (s : zSt) (m c : Nat) : s_tol (backT s m c) = s_tol s := by
  unfold backT; rw [y_tol_latest, y_tol_ended, y_tol_rows, y_tol_sum]
theorem z_backT_sum (s : zSt) (m c : Nat) : s_sum (backT s m c) = (fun x => if x < c then s_kSum s m x else s_sum s x) := by
  unfold backT; rw [y_sum_latest, y_sum_ended, y_sum_rows, su_sum]
theorem z_backT_rows (s : zSt) (m c : Nat) : s_rows (backT s m c) = (fun x => if x < c then s_kRows s m x else s_rows s x) := by
  unfold backT; rw [y_rows_latest, y_rows_ended, su_rows]
theorem z_backT_ended (s : zSt) (m c : Nat) : s_ended (backT s m c) = (fun x => if x < c then s_kEnd s m x else s_ended s x) := by
  unfold backT; rw [y_ended_latest, su_ended]
theorem z_backT_latest (s : zSt) (m c : Nat) : s_latest (backT s m c) = (fun x => if x < c then none else s_latest s x) := by
  unfold backT; rw [su_latest]
theorem z_backT_q (s : zSt) (m c : Nat) : s_q (backT s m c) = s_q s := by
  unfold backT; rw [y_q_latest, y_q_ended, y_q_rows, y_q_sum]
theorem z_backT_log (s : zSt) (m c : Nat) : s_log (backT s m c) = s_log s := by
  unfold backT; rw [y_log_latest, y_log_ended, y_log_rows, y_log_sum]
theorem z_backT_fin (s : zSt) (m c : Nat) : s_fin (backT s m c) = s_fin s := by
  unfold backT; rw [y_fin_latest, y_fin_ended, y_fin_rows, y_fin_sum]
theorem z_backT_stand (s : zSt) (m c : Nat) : s_stand (backT s m c) = s_stand s := by
  unfold backT; rw [y_stand_latest, y_stand_ended, y_stand_rows, y_stand_sum]
theorem z_backT_over (s : zSt) (m c : Nat) : s_over (backT s m c) = s_over s := by
  unfold backT; rw [y_over_latest, y_over_ended, y_over_rows, y_over_sum]
theorem z_backT_held (s : zSt) (m c : Nat) : s_held (backT s m c) = s_held s := by
  unfold backT; rw [y_held_latest, y_held_ended, y_held_rows, y_held_sum]
theorem z_backT_M (s : zSt) (m c : Nat) : s_M (backT s m c) = s_M s := by
  unfold backT; rw [y_M_latest, y_M_ended, y_M_rows, y_M_sum]
theorem z_backT_cond (s : zSt) (m c : Nat) : s_cond (backT s m c) = s_cond s := by
  unfold backT; rw [y_cond_latest, y_cond_ended, y_cond_rows, y_cond_sum]
theorem z_backT_pos (s : zSt) (m c : Nat) : s_pos (backT s m c) = s_pos s := by
  unfold backT; rw [y_pos_latest, y_pos_ended, y_pos_rows, y_pos_sum]
theorem z_backT_came (s : zSt) (m c : Nat) : s_came (backT s m c) = s_came s := by
  unfold backT; rw [y_came_latest, y_came_ended, y_came_rows, y_came_sum]
theorem z_backT_kept (s : zSt) (m c : Nat) : s_kept (backT s m c) = s_kept s := by
  unfold backT; rw [y_kept_latest, y_kept_ended, y_kept_rows, y_kept_sum]
theorem z_backT_kEnd (s : zSt) (m c : Nat) : s_kEnd (backT s m c) = s_kEnd s := by
  unfold backT; rw [y_kEnd_latest, y_kEnd_ended, y_kEnd_rows, y_kEnd_sum]
theorem z_backT_kSum (s : zSt) (m c : Nat) : s_kSum (backT s m c) = s_kSum s := by
  unfold backT; rw [y_kSum_latest, y_kSum_ended, y_kSum_rows, y_kSum_sum]
theorem z_backT_kRows (s : zSt) (m c : Nat) : s_kRows (backT s m c) = s_kRows s := by
  unfold backT; rw [y_kRows_latest, y_kRows_ended, y_kRows_rows, y_kRows_sum]
theorem z_backT_fails (s : zSt) (m c : Nat) : s_fails (backT s m c) = s_fails s := by
  unfold backT; rw [y_fails_latest, y_fails_ended, y_fails_rows, y_fails_sum]
theorem z_backT_taken (s : zSt) (m c : Nat) : s_taken (backT s m c) = s_taken s := by
  unfold backT; rw [y_taken_latest, y_taken_ended, y_taken_rows, y_taken_sum]
theorem z_backT_acks (s : zSt) (m c : Nat) : s_acks (backT s m c) = s_acks s := by
  unfold backT; rw [y_acks_latest, y_acks_ended, y_acks_rows, y_acks_sum]
def backC (s : zSt) (m c : Nat) : zSt := u_stand (u_over (u_held (u_q s (fun j => if j < c then [] else s_q s j)) (fun j => if j < c then none else s_held s j)) (fun j => if j < c then (s_ended s (s_to s j) || (match s_fr s j with | none => false | some k => s_ended s k)) else s_over s j)) (fun j => if j < c ∧ s_fr s j = none then s_pos s m j else s_stand s j)
theorem z_backC_N (s : zSt) (m c : Nat) : s_N (backC s m c) = s_N s := by
  unfold backC; rw [y_N_stand, y_N_over, y_N_held, y_N_q]
theorem z_backC_C (s : zSt) (m c : Nat) : s_C (backC s m c) = s_C s := by
  unfold backC; rw [y_C_stand, y_C_over, y_C_held, y_C_q]
theorem z_backC_fr (s : zSt) (m c : Nat) : s_fr (backC s m c) = s_fr s := by
  unfold backC; rw [y_fr_stand, y_fr_over, y_fr_held, y_fr_q]
theorem z_backC_to (s : zSt) (m c : Nat) : s_to (backC s m c) = s_to s := by
  unfold backC; rw [y_to_stand, y_to_over, y_to_held, y_to_q]
theorem z_backC_tol (s : zSt) (m c : Nat) : s_tol (backC s m c) = s_tol s := by
  unfold backC; rw [y_tol_stand, y_tol_over, y_tol_held, y_tol_q]
theorem z_backC_sum (s : zSt) (m c : Nat) : s_sum (backC s m c) = s_sum s := by
  unfold backC; rw [y_sum_stand, y_sum_over, y_sum_held, y_sum_q]
theorem z_backC_rows (s : zSt) (m c : Nat) : s_rows (backC s m c) = s_rows s := by
  unfold backC; rw [y_rows_stand, y_rows_over, y_rows_held, y_rows_q]
theorem z_backC_ended (s : zSt) (m c : Nat) : s_ended (backC s m c) = s_ended s := by
  unfold backC; rw [y_ended_stand, y_ended_over, y_ended_held, y_ended_q]
theorem z_backC_latest (s : zSt) (m c : Nat) : s_latest (backC s m c) = s_latest s := by
  unfold backC; rw [y_latest_stand, y_latest_over, y_latest_held, y_latest_q]
theorem z_backC_q (s : zSt) (m c : Nat) : s_q (backC s m c) = (fun j => if j < c then [] else s_q s j) := by
  unfold backC; rw [y_q_stand, y_q_over, y_q_held, su_q]
theorem z_backC_log (s : zSt) (m c : Nat) : s_log (backC s m c) = s_log s := by
  unfold backC; rw [y_log_stand, y_log_over, y_log_held, y_log_q]
theorem z_backC_fin (s : zSt) (m c : Nat) : s_fin (backC s m c) = s_fin s := by
  unfold backC; rw [y_fin_stand, y_fin_over, y_fin_held, y_fin_q]
theorem z_backC_stand (s : zSt) (m c : Nat) : s_stand (backC s m c) = (fun j => if j < c ∧ s_fr s j = none then s_pos s m j else s_stand s j) := by
  unfold backC; rw [su_stand]
theorem z_backC_over (s : zSt) (m c : Nat) : s_over (backC s m c) = (fun j => if j < c then (s_ended s (s_to s j) || (match s_fr s j with | none => false | some k => s_ended s k)) else s_over s j) := by
  unfold backC; rw [y_over_stand, su_over]
theorem z_backC_held (s : zSt) (m c : Nat) : s_held (backC s m c) = (fun j => if j < c then none else s_held s j) := by
  unfold backC; rw [y_held_stand, y_held_over, su_held]
theorem z_backC_M (s : zSt) (m c : Nat) : s_M (backC s m c) = s_M s := by
  unfold backC; rw [y_M_stand, y_M_over, y_M_held, y_M_q]
theorem z_backC_cond (s : zSt) (m c : Nat) : s_cond (backC s m c) = s_cond s := by
  unfold backC; rw [y_cond_stand, y_cond_over, y_cond_held, y_cond_q]
theorem z_backC_pos (s : zSt) (m c : Nat) : s_pos (backC s m c) = s_pos s := by
  unfold backC; rw [y_pos_stand, y_pos_over, y_pos_held, y_pos_q]
theorem z_backC_came (s : zSt) (m c : Nat) : s_came (backC s m c) = s_came s := by
  unfold backC; rw [y_came_stand, y_came_over, y_came_held, y_came_q]
theorem z_backC_kept (s : zSt) (m c : Nat) : s_kept (backC s m c) = s_kept s := by
  unfold backC; rw [y_kept_stand, y_kept_over, y_kept_held, y_kept_q]
theorem z_backC_kEnd (s : zSt) (m c : Nat) : s_kEnd (backC s m c) = s_kEnd s := by
  unfold backC; rw [y_kEnd_stand, y_kEnd_over, y_kEnd_held, y_kEnd_q]
theorem z_backC_kSum (s : zSt) (m c : Nat) : s_kSum (backC s m c) = s_kSum s := by
  unfold backC; rw [y_kSum_stand, y_kSum_over, y_kSum_held, y_kSum_q]
theorem z_backC_kRows (s : zSt) (m c : Nat) : s_kRows (backC s m c) = s_kRows s := by
  unfold backC; rw [y_kRows_stand, y_kRows_over, y_kRows_held, y_kRows_q]
theorem z_backC_fails (s : zSt) (m c : Nat) : s_fails (backC s m c) = s_fails s := by
  unfold backC; rw [y_fails_stand, y_fails_over, y_fails_held, y_fails_q]
theorem z_backC_taken (s : zSt) (m c : Nat) : s_taken (backC s m c) = s_taken s := by
  unfold backC; rw [y_taken_stand, y_taken_over, y_taken_held, y_taken_q]
theorem z_backC_acks (s : zSt) (m c : Nat) : s_acks (backC s m c) = s_acks s := by
  unfold backC; rw [y_acks_stand, y_acks_over, y_acks_held, y_acks_q]
theorem uu_N (s : zSt) : u_N s (s_N s) = s := rfl
theorem uu_C (s : zSt) : u_C s (s_C s) = s := rfl
theorem uu_fr (s : zSt) : u_fr s (s_fr s) = s := rfl
theorem uu_to (s : zSt) : u_to s (s_to s) = s := rfl
theorem uu_tol (s : zSt) : u_tol s (s_tol s) = s := rfl
theorem uu_sum (s : zSt) : u_sum s (s_sum s) = s := rfl
theorem uu_rows (s : zSt) : u_rows s (s_rows s) = s := rfl
theorem uu_ended (s : zSt) : u_ended s (s_ended s) = s := rfl
theorem uu_latest (s : zSt) : u_latest s (s_latest s) = s := rfl
theorem uu_q (s : zSt) : u_q s (s_q s) = s := rfl
theorem uu_log (s : zSt) : u_log s (s_log s) = s := rfl
theorem uu_fin (s : zSt) : u_fin s (s_fin s) = s := rfl
theorem uu_stand (s : zSt) : u_stand s (s_stand s) = s := rfl
theorem uu_over (s : zSt) : u_over s (s_over s) = s := rfl
theorem uu_held (s : zSt) : u_held s (s_held s) = s := rfl
theorem uu_M (s : zSt) : u_M s (s_M s) = s := rfl
theorem uu_cond (s : zSt) : u_cond s (s_cond s) = s := rfl
theorem uu_pos (s : zSt) : u_pos s (s_pos s) = s := rfl
theorem uu_came (s : zSt) : u_came s (s_came s) = s := rfl
theorem uu_kept (s : zSt) : u_kept s (s_kept s) = s := rfl
theorem uu_kEnd (s : zSt) : u_kEnd s (s_kEnd s) = s := rfl
theorem uu_kSum (s : zSt) : u_kSum s (s_kSum s) = s := rfl
theorem uu_kRows (s : zSt) : u_kRows s (s_kRows s) = s := rfl
theorem uu_fails (s : zSt) : u_fails s (s_fails s) = s := rfl
theorem uu_taken (s : zSt) : u_taken s (s_taken s) = s := rfl
theorem uu_acks (s : zSt) : u_acks s (s_acks s) = s := rfl
