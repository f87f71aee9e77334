/-! an update leaves the other components -/
theorem y_N_C (s : zSt) (v : Nat) : s_N (u_C s v) = s_N s := rfl
theorem y_N_fr (s : zSt) (v : Nat → Option Nat) : s_N (u_fr s v) = s_N s := rfl
theorem y_N_to (s : zSt) (v : Nat → Nat) : s_N (u_to s v) = s_N s := rfl
theorem y_N_tol (s : zSt) (v : Bool) : s_N (u_tol s v) = s_N s := rfl
theorem y_N_sum (s : zSt) (v : Nat → Int64) : s_N (u_sum s v) = s_N s := rfl
theorem y_N_rows (s : zSt) (v : Nat → Int32) : s_N (u_rows s v) = s_N s := rfl
theorem y_N_ended (s : zSt) (v : Nat → Bool) : s_N (u_ended s v) = s_N s := rfl
theorem y_N_latest (s : zSt) (v : Nat → Option Nat) : s_N (u_latest s v) = s_N s := rfl
theorem y_N_q (s : zSt) (v : Nat → List (Nat × Int64)) : s_N (u_q s v) = s_N s := rfl
theorem y_N_log (s : zSt) (v : Nat → List Int64) : s_N (u_log s v) = s_N s := rfl
theorem y_N_fin (s : zSt) (v : Nat → Bool) : s_N (u_fin s v) = s_N s := rfl
theorem y_N_stand (s : zSt) (v : Nat → Nat) : s_N (u_stand s v) = s_N s := rfl
theorem y_N_over (s : zSt) (v : Nat → Bool) : s_N (u_over s v) = s_N s := rfl
theorem y_N_held (s : zSt) (v : Nat → Option Nat) : s_N (u_held s v) = s_N s := rfl
theorem y_N_M (s : zSt) (v : Nat) : s_N (u_M s v) = s_N s := rfl
theorem y_N_cond (s : zSt) (v : Nat → Nat) : s_N (u_cond s v) = s_N s := rfl
theorem y_N_pos (s : zSt) (v : Nat → Nat → Nat) : s_N (u_pos s v) = s_N s := rfl
theorem y_N_came (s : zSt) (v : Nat → Nat → Bool) : s_N (u_came s v) = s_N s := rfl
theorem y_N_kept (s : zSt) (v : Nat → Nat → Bool) : s_N (u_kept s v) = s_N s := rfl
theorem y_N_kEnd (s : zSt) (v : Nat → Nat → Bool) : s_N (u_kEnd s v) = s_N s := rfl
theorem y_N_kSum (s : zSt) (v : Nat → Nat → Int64) : s_N (u_kSum s v) = s_N s := rfl
theorem y_N_kRows (s : zSt) (v : Nat → Nat → Int32) : s_N (u_kRows s v) = s_N s := rfl
theorem y_N_fails (s : zSt) (v : Nat → Nat → Bool) : s_N (u_fails s v) = s_N s := rfl
theorem y_N_taken (s : zSt) (v : Nat → Nat → Bool) : s_N (u_taken s v) = s_N s := rfl
theorem y_N_acks (s : zSt) (v : List (Nat × Nat)) : s_N (u_acks s v) = s_N s := rfl
theorem y_C_N (s : zSt) (v : Nat) : s_C (u_N s v) = s_C s := rfl
theorem y_C_fr (s : zSt) (v : Nat → Option Nat) : s_C (u_fr s v) = s_C s := rfl
theorem y_C_to (s : zSt) (v : Nat → Nat) : s_C (u_to s v) = s_C s := rfl
theorem y_C_tol (s : zSt) (v : Bool) : s_C (u_tol s v) = s_C s := rfl
theorem y_C_sum (s : zSt) (v : Nat → Int64) : s_C (u_sum s v) = s_C s := rfl
theorem y_C_rows (s : zSt) (v : Nat → Int32) : s_C (u_rows s v) = s_C s := rfl
theorem y_C_ended (s : zSt) (v : Nat → Bool) : s_C (u_ended s v) = s_C s := rfl
theorem y_C_latest (s : zSt) (v : Nat → Option Nat) : s_C (u_latest s v) = s_C s := rfl
theorem y_C_q (s : zSt) (v : Nat → List (Nat × Int64)) : s_C (u_q s v) = s_C s := rfl
theorem y_C_log (s : zSt) (v : Nat → List Int64) : s_C (u_log s v) = s_C s := rfl
theorem y_C_fin (s : zSt) (v : Nat → Bool) : s_C (u_fin s v) = s_C s := rfl
theorem y_C_stand (s : zSt) (v : Nat → Nat) : s_C (u_stand s v) = s_C s := rfl
theorem y_C_over (s : zSt) (v : Nat → Bool) : s_C (u_over s v) = s_C s := rfl
theorem y_C_held (s : zSt) (v : Nat → Option Nat) : s_C (u_held s v) = s_C s := rfl
theorem y_C_M (s : zSt) (v : Nat) : s_C (u_M s v) = s_C s := rfl
theorem y_C_cond (s : zSt) (v : Nat → Nat) : s_C (u_cond s v) = s_C s := rfl
theorem y_C_pos (s : zSt) (v : Nat → Nat → Nat) : s_C (u_pos s v) = s_C s := rfl
theorem y_C_came (s : zSt) (v : Nat → Nat → Bool) : s_C (u_came s v) = s_C s := rfl
theorem y_C_kept (s : zSt) (v : Nat → Nat → Bool) : s_C (u_kept s v) = s_C s := rfl
theorem y_C_kEnd (s : zSt) (v : Nat → Nat → Bool) : s_C (u_kEnd s v) = s_C s := rfl
theorem y_C_kSum (s : zSt) (v : Nat → Nat → Int64) : s_C (u_kSum s v) = s_C s := rfl
theorem y_C_kRows (s : zSt) (v : Nat → Nat → Int32) : s_C (u_kRows s v) = s_C s := rfl
theorem y_C_fails (s : zSt) (v : Nat → Nat → Bool) : s_C (u_fails s v) = s_C s := rfl
theorem y_C_taken (s : zSt) (v : Nat → Nat → Bool) : s_C (u_taken s v) = s_C s := rfl
theorem y_C_acks (s : zSt) (v : List (Nat × Nat)) : s_C (u_acks s v) = s_C s := rfl
theorem y_fr_N (s : zSt) (v : Nat) : s_fr (u_N s v) = s_fr s := rfl
theorem y_fr_C (s : zSt) (v : Nat) : s_fr (u_C s v) = s_fr s := rfl
theorem y_fr_to (s : zSt) (v : Nat → Nat) : s_fr (u_to s v) = s_fr s := rfl
theorem y_fr_tol (s : zSt) (v : Bool) : s_fr (u_tol s v) = s_fr s := rfl
theorem y_fr_sum (s : zSt) (v : Nat → Int64) : s_fr (u_sum s v) = s_fr s := rfl
theorem y_fr_rows (s : zSt) (v : Nat → Int32) : s_fr (u_rows s v) = s_fr s := rfl
theorem y_fr_ended (s : zSt) (v : Nat → Bool) : s_fr (u_ended s v) = s_fr s := rfl
theorem y_fr_latest (s : zSt) (v : Nat → Option Nat) : s_fr (u_latest s v) = s_fr s := rfl
theorem y_fr_q (s : zSt) (v : Nat → List (Nat × Int64)) : s_fr (u_q s v) = s_fr s := rfl
theorem y_fr_log (s : zSt) (v : Nat → List Int64) : s_fr (u_log s v) = s_fr s := rfl
theorem y_fr_fin (s : zSt) (v : Nat → Bool) : s_fr (u_fin s v) = s_fr s := rfl
theorem y_fr_stand (s : zSt) (v : Nat → Nat) : s_fr (u_stand s v) = s_fr s := rfl
theorem y_fr_over (s : zSt) (v : Nat → Bool) : s_fr (u_over s v) = s_fr s := rfl
theorem y_fr_held (s : zSt) (v : Nat → Option Nat) : s_fr (u_held s v) = s_fr s := rfl
theorem y_fr_M (s : zSt) (v : Nat) : s_fr (u_M s v) = s_fr s := rfl
theorem y_fr_cond (s : zSt) (v : Nat → Nat) : s_fr (u_cond s v) = s_fr s := rfl
theorem y_fr_pos (s : zSt) (v : Nat → Nat → Nat) : s_fr (u_pos s v) = s_fr s := rfl
theorem y_fr_came (s : zSt) (v : Nat → Nat → Bool) : s_fr (u_came s v) = s_fr s := rfl
theorem y_fr_kept (s : zSt) (v : Nat → Nat → Bool) : s_fr (u_kept s v) = s_fr s := rfl
theorem y_fr_kEnd (s : zSt) (v : Nat → Nat → Bool) : s_fr (u_kEnd s v) = s_fr s := rfl
theorem y_fr_kSum (s : zSt) (v : Nat → Nat → Int64) : s_fr (u_kSum s v) = s_fr s := rfl
theorem y_fr_kRows (s : zSt) (v : Nat → Nat → Int32) : s_fr (u_kRows s v) = s_fr s := rfl
theorem y_fr_fails (s : zSt) (v : Nat → Nat → Bool) : s_fr (u_fails s v) = s_fr s := rfl
theorem y_fr_taken (s : zSt) (v : Nat → Nat → Bool) : s_fr (u_taken s v) = s_fr s := rfl
theorem y_fr_acks (s : zSt) (v : List (Nat × Nat)) : s_fr (u_acks s v) = s_fr s := rfl
theorem y_to_N (s : zSt) (v : Nat) : s_to (u_N s v) = s_to s := rfl
theorem y_to_C (s : zSt) (v : Nat) : s_to (u_C s v) = s_to s := rfl
theorem y_to_fr (s : zSt) (v : Nat → Option Nat) : s_to (u_fr s v) = s_to s := rfl
theorem y_to_tol (s : zSt) (v : Bool) : s_to (u_tol s v) = s_to s := rfl
theorem y_to_sum (s : zSt) (v : Nat → Int64) : s_to (u_sum s v) = s_to s := rfl
theorem y_to_rows (s : zSt) (v : Nat → Int32) : s_to (u_rows s v) = s_to s := rfl
theorem y_to_ended (s : zSt) (v : Nat → Bool) : s_to (u_ended s v) = s_to s := rfl
theorem y_to_latest (s : zSt) (v : Nat → Option Nat) : s_to (u_latest s v) = s_to s := rfl
theorem y_to_q (s : zSt) (v : Nat → List (Nat × Int64)) : s_to (u_q s v) = s_to s := rfl
theorem y_to_log (s : zSt) (v : Nat → List Int64) : s_to (u_log s v) = s_to s := rfl
theorem y_to_fin (s : zSt) (v : Nat → Bool) : s_to (u_fin s v) = s_to s := rfl
theorem y_to_stand (s : zSt) (v : Nat → Nat) : s_to (u_stand s v) = s_to s := rfl
theorem y_to_over (s : zSt) (v : Nat → Bool) : s_to (u_over s v) = s_to s := rfl
theorem y_to_held (s : zSt) (v : Nat → Option Nat) : s_to (u_held s v) = s_to s := rfl
theorem y_to_M (s : zSt) (v : Nat) : s_to (u_M s v) = s_to s := rfl
theorem y_to_cond (s : zSt) (v : Nat → Nat) : s_to (u_cond s v) = s_to s := rfl
theorem y_to_pos (s : zSt) (v : Nat → Nat → Nat) : s_to (u_pos s v) = s_to s := rfl
theorem y_to_came (s : zSt) (v : Nat → Nat → Bool) : s_to (u_came s v) = s_to s := rfl
theorem y_to_kept (s : zSt) (v : Nat → Nat → Bool) : s_to (u_kept s v) = s_to s := rfl
theorem y_to_kEnd (s : zSt) (v : Nat → Nat → Bool) : s_to (u_kEnd s v) = s_to s := rfl
theorem y_to_kSum (s : zSt) (v : Nat → Nat → Int64) : s_to (u_kSum s v) = s_to s := rfl
theorem y_to_kRows (s : zSt) (v : Nat → Nat → Int32) : s_to (u_kRows s v) = s_to s := rfl
theorem y_to_fails (s : zSt) (v : Nat → Nat → Bool) : s_to (u_fails s v) = s_to s := rfl
theorem y_to_taken (s : zSt) (v : Nat → Nat → Bool) : s_to (u_taken s v) = s_to s := rfl
theorem y_to_acks (s : zSt) (v : List (Nat × Nat)) : s_to (u_acks s v) = s_to s := rfl
theorem y_tol_N (s : zSt) (v : Nat) : s_tol (u_N s v) = s_tol s := rfl
theorem y_tol_C (s : zSt) (v : Nat) : s_tol (u_C s v) = s_tol s := rfl
theorem y_tol_fr (s : zSt) (v : Nat → Option Nat) : s_tol (u_fr s v) = s_tol s := rfl
theorem y_tol_to (s : zSt) (v : Nat → Nat) : s_tol (u_to s v) = s_tol s := rfl
theorem y_tol_sum (s : zSt) (v : Nat → Int64) : s_tol (u_sum s v) = s_tol s := rfl
theorem y_tol_rows (s : zSt) (v : Nat → Int32) : s_tol (u_rows s v) = s_tol s := rfl
theorem y_tol_ended (s : zSt) (v : Nat → Bool) : s_tol (u_ended s v) = s_tol s := rfl
theorem y_tol_latest (s : zSt) (v : Nat → Option Nat) : s_tol (u_latest s v) = s_tol s := rfl
theorem y_tol_q (s : zSt) (v : Nat → List (Nat × Int64)) : s_tol (u_q s v) = s_tol s := rfl
theorem y_tol_log (s : zSt) (v : Nat → List Int64) : s_tol (u_log s v) = s_tol s := rfl
theorem y_tol_fin (s : zSt) (v : Nat → Bool) : s_tol (u_fin s v) = s_tol s := rfl
theorem y_tol_stand (s : zSt) (v : Nat → Nat) : s_tol (u_stand s v) = s_tol s := rfl
theorem y_tol_over (s : zSt) (v : Nat → Bool) : s_tol (u_over s v) = s_tol s := rfl
theorem y_tol_held (s : zSt) (v : Nat → Option Nat) : s_tol (u_held s v) = s_tol s := rfl
theorem y_tol_M (s : zSt) (v : Nat) : s_tol (u_M s v) = s_tol s := rfl
theorem y_tol_cond (s : zSt) (v : Nat → Nat) : s_tol (u_cond s v) = s_tol s := rfl
theorem y_tol_pos (s : zSt) (v : Nat → Nat → Nat) : s_tol (u_pos s v) = s_tol s := rfl
theorem y_tol_came (s : zSt) (v : Nat → Nat → Bool) : s_tol (u_came s v) = s_tol s := rfl
theorem y_tol_kept (s : zSt) (v : Nat → Nat → Bool) : s_tol (u_kept s v) = s_tol s := rfl
theorem y_tol_kEnd (s : zSt) (v : Nat → Nat → Bool) : s_tol (u_kEnd s v) = s_tol s := rfl
theorem y_tol_kSum (s : zSt) (v : Nat → Nat → Int64) : s_tol (u_kSum s v) = s_tol s := rfl
theorem y_tol_kRows (s : zSt) (v : Nat → Nat → Int32) : s_tol (u_kRows s v) = s_tol s := rfl
theorem y_tol_fails (s : zSt) (v : Nat → Nat → Bool) : s_tol (u_fails s v) = s_tol s := rfl
theorem y_tol_taken (s : zSt) (v : Nat → Nat → Bool) : s_tol (u_taken s v) = s_tol s := rfl
theorem y_tol_acks (s : zSt) (v : List (Nat × Nat)) : s_tol (u_acks s v) = s_tol s := rfl
theorem y_sum_N (s : zSt) (v : Nat) : s_sum (u_N s v) = s_sum s := rfl
theorem y_sum_C (s : zSt) (v : Nat) : s_sum (u_C s v) = s_sum s := rfl
theorem y_sum_fr (s : zSt) (v : Nat → Option Nat) : s_sum (u_fr s v) = s_sum s := rfl
theorem y_sum_to (s : zSt) (v : Nat → Nat) : s_sum (u_to s v) = s_sum s := rfl
theorem y_sum_tol (s : zSt) (v : Bool) : s_sum (u_tol s v) = s_sum s := rfl
theorem y_sum_rows (s : zSt) (v : Nat → Int32) : s_sum (u_rows s v) = s_sum s := rfl
theorem y_sum_ended (s : zSt) (v : Nat → Bool) : s_sum (u_ended s v) = s_sum s := rfl
theorem y_sum_latest (s : zSt) (v : Nat → Option Nat) : s_sum (u_latest s v) = s_sum s := rfl
theorem y_sum_q (s : zSt) (v : Nat → List (Nat × Int64)) : s_sum (u_q s v) = s_sum s := rfl
theorem y_sum_log (s : zSt) (v : Nat → List Int64) : s_sum (u_log s v) = s_sum s := rfl
theorem y_sum_fin (s : zSt) (v : Nat → Bool) : s_sum (u_fin s v) = s_sum s := rfl
theorem y_sum_stand (s : zSt) (v : Nat → Nat) : s_sum (u_stand s v) = s_sum s := rfl
theorem y_sum_over (s : zSt) (v : Nat → Bool) : s_sum (u_over s v) = s_sum s := rfl
theorem y_sum_held (s : zSt) (v : Nat → Option Nat) : s_sum (u_held s v) = s_sum s := rfl
theorem y_sum_M (s : zSt) (v : Nat) : s_sum (u_M s v) = s_sum s := rfl
theorem y_sum_cond (s : zSt) (v : Nat → Nat) : s_sum (u_cond s v) = s_sum s := rfl
theorem y_sum_pos (s : zSt) (v : Nat → Nat → Nat) : s_sum (u_pos s v) = s_sum s := rfl
theorem y_sum_came (s : zSt) (v : Nat → Nat → Bool) : s_sum (u_came s v) = s_sum s := rfl
theorem y_sum_kept (s : zSt) (v : Nat → Nat → Bool) : s_sum (u_kept s v) = s_sum s := rfl
theorem y_sum_kEnd (s : zSt) (v : Nat → Nat → Bool) : s_sum (u_kEnd s v) = s_sum s := rfl
theorem y_sum_kSum (s : zSt) (v : Nat → Nat → Int64) : s_sum (u_kSum s v) = s_sum s := rfl
theorem y_sum_kRows (s : zSt) (v : Nat → Nat → Int32) : s_sum (u_kRows s v) = s_sum s := rfl
theorem y_sum_fails (s : zSt) (v : Nat → Nat → Bool) : s_sum (u_fails s v) = s_sum s := rfl
theorem y_sum_taken (s : zSt) (v : Nat → Nat → Bool) : s_sum (u_taken s v) = s_sum s := rfl
theorem y_sum_acks (s : zSt) (v : List (Nat × Nat)) : s_sum (u_acks s v) = s_sum s := rfl
theorem y_rows_N (s : zSt) (v : Nat) : s_rows (u_N s v) = s_rows s := rfl
theorem y_rows_C (s : zSt) (v : Nat) : s_rows (u_C s v) = s_rows s := rfl
theorem y_rows_fr (s : zSt) (v : Nat → Option Nat) : s_rows (u_fr s v) = s_rows s := rfl
theorem y_rows_to (s : zSt) (v : Nat → Nat) : s_rows (u_to s v) = s_rows s := rfl
theorem y_rows_tol (s : zSt) (v : Bool) : s_rows (u_tol s v) = s_rows s := rfl
theorem y_rows_sum (s : zSt) (v : Nat → Int64) : s_rows (u_sum s v) = s_rows s := rfl
theorem y_rows_ended (s : zSt) (v : Nat → Bool) : s_rows (u_ended s v) = s_rows s := rfl
theorem y_rows_latest (s : zSt) (v : Nat → Option Nat) : s_rows (u_latest s v) = s_rows s := rfl
theorem y_rows_q (s : zSt) (v : Nat → List (Nat × Int64)) : s_rows (u_q s v) = s_rows s := rfl
theorem y_rows_log (s : zSt) (v : Nat → List Int64) : s_rows (u_log s v) = s_rows s := rfl
theorem y_rows_fin (s : zSt) (v : Nat → Bool) : s_rows (u_fin s v) = s_rows s := rfl
theorem y_rows_stand (s : zSt) (v : Nat → Nat) : s_rows (u_stand s v) = s_rows s := rfl
theorem y_rows_over (s : zSt) (v : Nat → Bool) : s_rows (u_over s v) = s_rows s := rfl
theorem y_rows_held (s : zSt) (v : Nat → Option Nat) : s_rows (u_held s v) = s_rows s := rfl
theorem y_rows_M (s : zSt) (v : Nat) : s_rows (u_M s v) = s_rows s := rfl
theorem y_rows_cond (s : zSt) (v : Nat → Nat) : s_rows (u_cond s v) = s_rows s := rfl
theorem y_rows_pos (s : zSt) (v : Nat → Nat → Nat) : s_rows (u_pos s v) = s_rows s := rfl
theorem y_rows_came (s : zSt) (v : Nat → Nat → Bool) : s_rows (u_came s v) = s_rows s := rfl
theorem y_rows_kept (s : zSt) (v : Nat → Nat → Bool) : s_rows (u_kept s v) = s_rows s := rfl
theorem y_rows_kEnd (s : zSt) (v : Nat → Nat → Bool) : s_rows (u_kEnd s v) = s_rows s := rfl
theorem y_rows_kSum (s : zSt) (v : Nat → Nat → Int64) : s_rows (u_kSum s v) = s_rows s := rfl
theorem y_rows_kRows (s : zSt) (v : Nat → Nat → Int32) : s_rows (u_kRows s v) = s_rows s := rfl
theorem y_rows_fails (s : zSt) (v : Nat → Nat → Bool) : s_rows (u_fails s v) = s_rows s := rfl
theorem y_rows_taken (s : zSt) (v : Nat → Nat → Bool) : s_rows (u_taken s v) = s_rows s := rfl
theorem y_rows_acks (s : zSt) (v : List (Nat × Nat)) : s_rows (u_acks s v) = s_rows s := rfl
theorem y_ended_N (s : zSt) (v : Nat) : s_ended (u_N s v) = s_ended s := rfl
theorem y_ended_C (s : zSt) (v : Nat) : s_ended (u_C s v) = s_ended s := rfl
theorem y_ended_fr (s : zSt) (v : Nat → Option Nat) : s_ended (u_fr s v) = s_ended s := rfl
theorem y_ended_to (s : zSt) (v : Nat → Nat) : s_ended (u_to s v) = s_ended s := rfl
theorem y_ended_tol (s : zSt) (v : Bool) : s_ended (u_tol s v) = s_ended s := rfl
theorem y_ended_sum (s : zSt) (v : Nat → Int64) : s_ended (u_sum s v) = s_ended s := rfl
theorem y_ended_rows (s : zSt) (v : Nat → Int32) : s_ended (u_rows s v) = s_ended s := rfl
theorem y_ended_latest (s : zSt) (v : Nat → Option Nat) : s_ended (u_latest s v) = s_ended s := rfl
theorem y_ended_q (s : zSt) (v : Nat → List (Nat × Int64)) : s_ended (u_q s v) = s_ended s := rfl
theorem y_ended_log (s : zSt) (v : Nat → List Int64) : s_ended (u_log s v) = s_ended s := rfl
theorem y_ended_fin (s : zSt) (v : Nat → Bool) : s_ended (u_fin s v) = s_ended s := rfl
theorem y_ended_stand (s : zSt) (v : Nat → Nat) : s_ended (u_stand s v) = s_ended s := rfl
theorem y_ended_over (s : zSt) (v : Nat → Bool) : s_ended (u_over s v) = s_ended s := rfl
theorem y_ended_held (s : zSt) (v : Nat → Option Nat) : s_ended (u_held s v) = s_ended s := rfl
theorem y_ended_M (s : zSt) (v : Nat) : s_ended (u_M s v) = s_ended s := rfl
theorem y_ended_cond (s : zSt) (v : Nat → Nat) : s_ended (u_cond s v) = s_ended s := rfl
theorem y_ended_pos (s : zSt) (v : Nat → Nat → Nat) : s_ended (u_pos s v) = s_ended s := rfl
theorem y_ended_came (s : zSt) (v : Nat → Nat → Bool) : s_ended (u_came s v) = s_ended s := rfl
theorem y_ended_kept (s : zSt) (v : Nat → Nat → Bool) : s_ended (u_kept s v) = s_ended s := rfl
theorem y_ended_kEnd (s : zSt) (v : Nat → Nat → Bool) : s_ended (u_kEnd s v) = s_ended s := rfl
theorem y_ended_kSum (s : zSt) (v : Nat → Nat → Int64) : s_ended (u_kSum s v) = s_ended s := rfl
theorem y_ended_kRows (s : zSt) (v : Nat → Nat → Int32) : s_ended (u_kRows s v) = s_ended s := rfl
theorem y_ended_fails (s : zSt) (v : Nat → Nat → Bool) : s_ended (u_fails s v) = s_ended s := rfl
theorem y_ended_taken (s : zSt) (v : Nat → Nat → Bool) : s_ended (u_taken s v) = s_ended s := rfl
theorem y_ended_acks (s : zSt) (v : List (Nat × Nat)) : s_ended (u_acks s v) = s_ended s := rfl
theorem y_latest_N (s : zSt) (v : Nat) : s_latest (u_N s v) = s_latest s := rfl
theorem y_latest_C (s : zSt) (v : Nat) : s_latest (u_C s v) = s_latest s := rfl
theorem y_latest_fr (s : zSt) (v : Nat → Option Nat) : s_latest (u_fr s v) = s_latest s := rfl
theorem y_latest_to (s : zSt) (v : Nat → Nat) : s_latest (u_to s v) = s_latest s := rfl
theorem y_latest_tol (s : zSt) (v : Bool) : s_latest (u_tol s v) = s_latest s := rfl
theorem y_latest_sum (s : zSt) (v : Nat → Int64) : s_latest (u_sum s v) = s_latest s := rfl
theorem y_latest_rows (s : zSt) (v : Nat → Int32) : s_latest (u_rows s v) = s_latest s := rfl
theorem y_latest_ended (s : zSt) (v : Nat → Bool) : s_latest (u_ended s v) = s_latest s := rfl
theorem y_latest_q (s : zSt) (v : Nat → List (Nat × Int64)) : s_latest (u_q s v) = s_latest s := rfl
theorem y_latest_log (s : zSt) (v : Nat → List Int64) : s_latest (u_log s v) = s_latest s := rfl
theorem y_latest_fin (s : zSt) (v : Nat → Bool) : s_latest (u_fin s v) = s_latest s := rfl
theorem y_latest_stand (s : zSt) (v : Nat → Nat) : s_latest (u_stand s v) = s_latest s := rfl
theorem y_latest_over (s : zSt) (v : Nat → Bool) : s_latest (u_over s v) = s_latest s := rfl
theorem y_latest_held (s : zSt) (v : Nat → Option Nat) : s_latest (u_held s v) = s_latest s := rfl
theorem y_latest_M (s : zSt) (v : Nat) : s_latest (u_M s v) = s_latest s := rfl
theorem y_latest_cond (s : zSt) (v : Nat → Nat) : s_latest (u_cond s v) = s_latest s := rfl
theorem y_latest_pos (s : zSt) (v : Nat → Nat → Nat) : s_latest (u_pos s v) = s_latest s := rfl
theorem y_latest_came (s : zSt) (v : Nat → Nat → Bool) : s_latest (u_came s v) = s_latest s := rfl
theorem y_latest_kept (s : zSt) (v : Nat → Nat → Bool) : s_latest (u_kept s v) = s_latest s := rfl
theorem y_latest_kEnd (s : zSt) (v : Nat → Nat → Bool) : s_latest (u_kEnd s v) = s_latest s := rfl
theorem y_latest_kSum (s : zSt) (v : Nat → Nat → Int64) : s_latest (u_kSum s v) = s_latest s := rfl
theorem y_latest_kRows (s : zSt) (v : Nat → Nat → Int32) : s_latest (u_kRows s v) = s_latest s := rfl
theorem y_latest_fails (s : zSt) (v : Nat → Nat → Bool) : s_latest (u_fails s v) = s_latest s := rfl
theorem y_latest_taken (s : zSt) (v : Nat → Nat → Bool) : s_latest (u_taken s v) = s_latest s := rfl
theorem y_latest_acks (s : zSt) (v : List (Nat × Nat)) : s_latest (u_acks s v) = s_latest s := rfl
theorem y_q_N (s : zSt) (v : Nat) : s_q (u_N s v) = s_q s := rfl
theorem y_q_C (s : zSt) (v : Nat) : s_q (u_C s v) = s_q s := rfl
theorem y_q_fr (s : zSt) (v : Nat → Option Nat) : s_q (u_fr s v) = s_q s := rfl
theorem y_q_to (s : zSt) (v : Nat → Nat) : s_q (u_to s v) = s_q s := rfl
theorem y_q_tol (s : zSt) (v : Bool) : s_q (u_tol s v) = s_q s := rfl
theorem y_q_sum (s : zSt) (v : Nat → Int64) : s_q (u_sum s v) = s_q s := rfl
theorem y_q_rows (s : zSt) (v : Nat → Int32) : s_q (u_rows s v) = s_q s := rfl
theorem y_q_ended (s : zSt) (v : Nat → Bool) : s_q (u_ended s v) = s_q s := rfl
theorem y_q_latest (s : zSt) (v : Nat → Option Nat) : s_q (u_latest s v) = s_q s := rfl
theorem y_q_log (s : zSt) (v : Nat → List Int64) : s_q (u_log s v) = s_q s := rfl
theorem y_q_fin (s : zSt) (v : Nat → Bool) : s_q (u_fin s v) = s_q s := rfl
theorem y_q_stand (s : zSt) (v : Nat → Nat) : s_q (u_stand s v) = s_q s := rfl
theorem y_q_over (s : zSt) (v : Nat → Bool) : s_q (u_over s v) = s_q s := rfl
theorem y_q_held (s : zSt) (v : Nat → Option Nat) : s_q (u_held s v) = s_q s := rfl
theorem y_q_M (s : zSt) (v : Nat) : s_q (u_M s v) = s_q s := rfl
theorem y_q_cond (s : zSt) (v : Nat → Nat) : s_q (u_cond s v) = s_q s := rfl
theorem y_q_pos (s : zSt) (v : Nat → Nat → Nat) : s_q (u_pos s v) = s_q s := rfl
theorem y_q_came (s : zSt) (v : Nat → Nat → Bool) : s_q (u_came s v) = s_q s := rfl
theorem y_q_kept (s : zSt) (v : Nat → Nat → Bool) : s_q (u_kept s v) = s_q s := rfl
theorem y_q_kEnd (s : zSt) (v : Nat → Nat → Bool) : s_q (u_kEnd s v) = s_q s := rfl
theorem y_q_kSum (s : zSt) (v : Nat → Nat → Int64) : s_q (u_kSum s v) = s_q s := rfl
theorem y_q_kRows (s : zSt) (v : Nat → Nat → Int32) : s_q (u_kRows s v) = s_q s := rfl
theorem y_q_fails (s : zSt) (v : Nat → Nat → Bool) : s_q (u_fails s v) = s_q s := rfl
theorem y_q_taken (s : zSt) (v : Nat → Nat → Bool) : s_q (u_taken s v) = s_q s := rfl
theorem y_q_acks (s : zSt) (v : List (Nat × Nat)) : s_q (u_acks s v) = s_q s := rfl
theorem y_log_N (s : zSt) (v : Nat) : s_log (u_N s v) = s_log s := rfl
theorem y_log_C (s : zSt) (v : Nat) : s_log (u_C s v) = s_log s := rfl
theorem y_log_fr (s : zSt) (v : Nat → Option Nat) : s_log (u_fr s v) = s_log s := rfl
theorem y_log_to (s : zSt) (v : Nat → Nat) : s_log (u_to s v) = s_log s := rfl
theorem y_log_tol (s : zSt) (v : Bool) : s_log (u_tol s v) = s_log s := rfl
theorem y_log_sum (s : zSt) (v : Nat → Int64) : s_log (u_sum s v) = s_log s := rfl
theorem y_log_rows (s : zSt) (v : Nat → Int32) : s_log (u_rows s v) = s_log s := rfl
theorem y_log_ended (s : zSt) (v : Nat → Bool) : s_log (u_ended s v) = s_log s := rfl
theorem y_log_latest (s : zSt) (v : Nat → Option Nat) : s_log (u_latest s v) = s_log s := rfl
theorem y_log_q (s : zSt) (v : Nat → List (Nat × Int64)) : s_log (u_q s v) = s_log s := rfl
theorem y_log_fin (s : zSt) (v : Nat → Bool) : s_log (u_fin s v) = s_log s := rfl
theorem y_log_stand (s : zSt) (v : Nat → Nat) : s_log (u_stand s v) = s_log s := rfl
theorem y_log_over (s : zSt) (v : Nat → Bool) : s_log (u_over s v) = s_log s := rfl
theorem y_log_held (s : zSt) (v : Nat → Option Nat) : s_log (u_held s v) = s_log s := rfl
theorem y_log_M (s : zSt) (v : Nat) : s_log (u_M s v) = s_log s := rfl
theorem y_log_cond (s : zSt) (v : Nat → Nat) : s_log (u_cond s v) = s_log s := rfl
theorem y_log_pos (s : zSt) (v : Nat → Nat → Nat) : s_log (u_pos s v) = s_log s := rfl
theorem y_log_came (s : zSt) (v : Nat → Nat → Bool) : s_log (u_came s v) = s_log s := rfl
theorem y_log_kept (s : zSt) (v : Nat → Nat → Bool) : s_log (u_kept s v) = s_log s := rfl
theorem y_log_kEnd (s : zSt) (v : Nat → Nat → Bool) : s_log (u_kEnd s v) = s_log s := rfl
theorem y_log_kSum (s : zSt) (v : Nat → Nat → Int64) : s_log (u_kSum s v) = s_log s := rfl
theorem y_log_kRows (s : zSt) (v : Nat → Nat → Int32) : s_log (u_kRows s v) = s_log s := rfl
theorem y_log_fails (s : zSt) (v : Nat → Nat → Bool) : s_log (u_fails s v) = s_log s := rfl
theorem y_log_taken (s : zSt) (v : Nat → Nat → Bool) : s_log (u_taken s v) = s_log s := rfl
theorem y_log_acks (s : zSt) (v : List (Nat × Nat)) : s_log (u_acks s v) = s_log s := rfl
theorem y_fin_N (s : zSt) (v : Nat) : s_fin (u_N s v) = s_fin s := rfl
theorem y_fin_C (s : zSt) (v : Nat) : s_fin (u_C s v) = s_fin s := rfl
theorem y_fin_fr (s : zSt) (v : Nat → Option Nat) : s_fin (u_fr s v) = s_fin s := rfl
theorem y_fin_to (s : zSt) (v : Nat → Nat) : s_fin (u_to s v) = s_fin s := rfl
theorem y_fin_tol (s : zSt) (v : Bool) : s_fin (u_tol s v) = s_fin s := rfl
theorem y_fin_sum (s : zSt) (v : Nat → Int64) : s_fin (u_sum s v) = s_fin s := rfl
theorem y_fin_rows (s : zSt) (v : Nat → Int32) : s_fin (u_rows s v) = s_fin s := rfl
theorem y_fin_ended (s : zSt) (v : Nat → Bool) : s_fin (u_ended s v) = s_fin s := rfl
theorem y_fin_latest (s : zSt) (v : Nat → Option Nat) : s_fin (u_latest s v) = s_fin s := rfl
theorem y_fin_q (s : zSt) (v : Nat → List (Nat × Int64)) : s_fin (u_q s v) = s_fin s := rfl
theorem y_fin_log (s : zSt) (v : Nat → List Int64) : s_fin (u_log s v) = s_fin s := rfl
theorem y_fin_stand (s : zSt) (v : Nat → Nat) : s_fin (u_stand s v) = s_fin s := rfl
theorem y_fin_over (s : zSt) (v : Nat → Bool) : s_fin (u_over s v) = s_fin s := rfl
theorem y_fin_held (s : zSt) (v : Nat → Option Nat) : s_fin (u_held s v) = s_fin s := rfl
theorem y_fin_M (s : zSt) (v : Nat) : s_fin (u_M s v) = s_fin s := rfl
theorem y_fin_cond (s : zSt) (v : Nat → Nat) : s_fin (u_cond s v) = s_fin s := rfl
theorem y_fin_pos (s : zSt) (v : Nat → Nat → Nat) : s_fin (u_pos s v) = s_fin s := rfl
theorem y_fin_came (s : zSt) (v : Nat → Nat → Bool) : s_fin (u_came s v) = s_fin s := rfl
theorem y_fin_kept (s : zSt) (v : Nat → Nat → Bool) : s_fin (u_kept s v) = s_fin s := rfl
theorem y_fin_kEnd (s : zSt) (v : Nat → Nat → Bool) : s_fin (u_kEnd s v) = s_fin s := rfl
theorem y_fin_kSum (s : zSt) (v : Nat → Nat → Int64) : s_fin (u_kSum s v) = s_fin s := rfl
theorem y_fin_kRows (s : zSt) (v : Nat → Nat → Int32) : s_fin (u_kRows s v) = s_fin s := rfl
theorem y_fin_fails (s : zSt) (v : Nat → Nat → Bool) : s_fin (u_fails s v) = s_fin s := rfl
theorem y_fin_taken (s : zSt) (v : Nat → Nat → Bool) : s_fin (u_taken s v) = s_fin s := rfl
theorem y_fin_acks (s : zSt) (v : List (Nat × Nat)) : s_fin (u_acks s v) = s_fin s := rfl
theorem y_stand_N (s : zSt) (v : Nat) : s_stand (u_N s v) = s_stand s := rfl
theorem y_stand_C (s : zSt) (v : Nat) : s_stand (u_C s v) = s_stand s := rfl
theorem y_stand_fr (s : zSt) (v : Nat → Option Nat) : s_stand (u_fr s v) = s_stand s := rfl
theorem y_stand_to (s : zSt) (v : Nat → Nat) : s_stand (u_to s v) = s_stand s := rfl
theorem y_stand_tol (s : zSt) (v : Bool) : s_stand (u_tol s v) = s_stand s := rfl
theorem y_stand_sum (s : zSt) (v : Nat → Int64) : s_stand (u_sum s v) = s_stand s := rfl
theorem y_stand_rows (s : zSt) (v : Nat → Int32) : s_stand (u_rows s v) = s_stand s := rfl
theorem y_stand_ended (s : zSt) (v : Nat → Bool) : s_stand (u_ended s v) = s_stand s := rfl
theorem y_stand_latest (s : zSt) (v : Nat → Option Nat) : s_stand (u_latest s v) = s_stand s := rfl
theorem y_stand_q (s : zSt) (v : Nat → List (Nat × Int64)) : s_stand (u_q s v) = s_stand s := rfl
theorem y_stand_log (s : zSt) (v : Nat → List Int64) : s_stand (u_log s v) = s_stand s := rfl
theorem y_stand_fin (s : zSt) (v : Nat → Bool) : s_stand (u_fin s v) = s_stand s := rfl
theorem y_stand_over (s : zSt) (v : Nat → Bool) : s_stand (u_over s v) = s_stand s := rfl
theorem y_stand_held (s : zSt) (v : Nat → Option Nat) : s_stand (u_held s v) = s_stand s := rfl
theorem y_stand_M (s : zSt) (v : Nat) : s_stand (u_M s v) = s_stand s := rfl
theorem y_stand_cond (s : zSt) (v : Nat → Nat) : s_stand (u_cond s v) = s_stand s := rfl
theorem y_stand_pos (s : zSt) (v : Nat → Nat → Nat) : s_stand (u_pos s v) = s_stand s := rfl
theorem y_stand_came (s : zSt) (v : Nat → Nat → Bool) : s_stand (u_came s v) = s_stand s := rfl
theorem y_stand_kept (s : zSt) (v : Nat → Nat → Bool) : s_stand (u_kept s v) = s_stand s := rfl
theorem y_stand_kEnd (s : zSt) (v : Nat → Nat → Bool) : s_stand (u_kEnd s v) = s_stand s := rfl
theorem y_stand_kSum (s : zSt) (v : Nat → Nat → Int64) : s_stand (u_kSum s v) = s_stand s := rfl
theorem y_stand_kRows (s : zSt) (v : Nat → Nat → Int32) : s_stand (u_kRows s v) = s_stand s := rfl
theorem y_stand_fails (s : zSt) (v : Nat → Nat → Bool) : s_stand (u_fails s v) = s_stand s := rfl
theorem y_stand_taken (s : zSt) (v : Nat → Nat → Bool) : s_stand (u_taken s v) = s_stand s := rfl
theorem y_stand_acks (s : zSt) (v : List (Nat × Nat)) : s_stand (u_acks s v) = s_stand s := rfl
theorem y_over_N (s : zSt) (v : Nat) : s_over (u_N s v) = s_over s := rfl
theorem y_over_C (s : zSt) (v : Nat) : s_over (u_C s v) = s_over s := rfl
theorem y_over_fr (s : zSt) (v : Nat → Option Nat) : s_over (u_fr s v) = s_over s := rfl
theorem y_over_to (s : zSt) (v : Nat → Nat) : s_over (u_to s v) = s_over s := rfl
theorem y_over_tol (s : zSt) (v : Bool) : s_over (u_tol s v) = s_over s := rfl
theorem y_over_sum (s : zSt) (v : Nat → Int64) : s_over (u_sum s v) = s_over s := rfl
theorem y_over_rows (s : zSt) (v : Nat → Int32) : s_over (u_rows s v) = s_over s := rfl
theorem y_over_ended (s : zSt) (v : Nat → Bool) : s_over (u_ended s v) = s_over s := rfl
theorem y_over_latest (s : zSt) (v : Nat → Option Nat) : s_over (u_latest s v) = s_over s := rfl
theorem y_over_q (s : zSt) (v : Nat → List (Nat × Int64)) : s_over (u_q s v) = s_over s := rfl
theorem y_over_log (s : zSt) (v : Nat → List Int64) : s_over (u_log s v) = s_over s := rfl
theorem y_over_fin (s : zSt) (v : Nat → Bool) : s_over (u_fin s v) = s_over s := rfl
theorem y_over_stand (s : zSt) (v : Nat → Nat) : s_over (u_stand s v) = s_over s := rfl
theorem y_over_held (s : zSt) (v : Nat → Option Nat) : s_over (u_held s v) = s_over s := rfl
theorem y_over_M (s : zSt) (v : Nat) : s_over (u_M s v) = s_over s := rfl
theorem y_over_cond (s : zSt) (v : Nat → Nat) : s_over (u_cond s v) = s_over s := rfl
theorem y_over_pos (s : zSt) (v : Nat → Nat → Nat) : s_over (u_pos s v) = s_over s := rfl
theorem y_over_came (s : zSt) (v : Nat → Nat → Bool) : s_over (u_came s v) = s_over s := rfl
theorem y_over_kept (s : zSt) (v : Nat → Nat → Bool) : s_over (u_kept s v) = s_over s := rfl
theorem y_over_kEnd (s : zSt) (v : Nat → Nat → Bool) : s_over (u_kEnd s v) = s_over s := rfl
theorem y_over_kSum (s : zSt) (v : Nat → Nat → Int64) : s_over (u_kSum s v) = s_over s := rfl
theorem y_over_kRows (s : zSt) (v : Nat → Nat → Int32) : s_over (u_kRows s v) = s_over s := rfl
theorem y_over_fails (s : zSt) (v : Nat → Nat → Bool) : s_over (u_fails s v) = s_over s := rfl
theorem y_over_taken (s : zSt) (v : Nat → Nat → Bool) : s_over (u_taken s v) = s_over s := rfl
theorem y_over_acks (s : zSt) (v : List (Nat × Nat)) : s_over (u_acks s v) = s_over s := rfl
theorem y_held_N (s : zSt) (v : Nat) : s_held (u_N s v) = s_held s := rfl
theorem y_held_C (s : zSt) (v : Nat) : s_held (u_C s v) = s_held s := rfl
theorem y_held_fr (s : zSt) (v : Nat → Option Nat) : s_held (u_fr s v) = s_held s := rfl
theorem y_held_to (s : zSt) (v : Nat → Nat) : s_held (u_to s v) = s_held s := rfl
theorem y_held_tol (s : zSt) (v : Bool) : s_held (u_tol s v) = s_held s := rfl
theorem y_held_sum (s : zSt) (v : Nat → Int64) : s_held (u_sum s v) = s_held s := rfl
theorem y_held_rows (s : zSt) (v : Nat → Int32) : s_held (u_rows s v) = s_held s := rfl
theorem y_held_ended (s : zSt) (v : Nat → Bool) : s_held (u_ended s v) = s_held s := rfl
theorem y_held_latest (s : zSt) (v : Nat → Option Nat) : s_held (u_latest s v) = s_held s := rfl
theorem y_held_q (s : zSt) (v : Nat → List (Nat × Int64)) : s_held (u_q s v) = s_held s := rfl
theorem y_held_log (s : zSt) (v : Nat → List Int64) : s_held (u_log s v) = s_held s := rfl
theorem y_held_fin (s : zSt) (v : Nat → Bool) : s_held (u_fin s v) = s_held s := rfl
theorem y_held_stand (s : zSt) (v : Nat → Nat) : s_held (u_stand s v) = s_held s := rfl
theorem y_held_over (s : zSt) (v : Nat → Bool) : s_held (u_over s v) = s_held s := rfl
theorem y_held_M (s : zSt) (v : Nat) : s_held (u_M s v) = s_held s := rfl
theorem y_held_cond (s : zSt) (v : Nat → Nat) : s_held (u_cond s v) = s_held s := rfl
theorem y_held_pos (s : zSt) (v : Nat → Nat → Nat) : s_held (u_pos s v) = s_held s := rfl
theorem y_held_came (s : zSt) (v : Nat → Nat → Bool) : s_held (u_came s v) = s_held s := rfl
theorem y_held_kept (s : zSt) (v : Nat → Nat → Bool) : s_held (u_kept s v) = s_held s := rfl
theorem y_held_kEnd (s : zSt) (v : Nat → Nat → Bool) : s_held (u_kEnd s v) = s_held s := rfl
theorem y_held_kSum (s : zSt) (v : Nat → Nat → Int64) : s_held (u_kSum s v) = s_held s := rfl
theorem y_held_kRows (s : zSt) (v : Nat → Nat → Int32) : s_held (u_kRows s v) = s_held s := rfl
theorem y_held_fails (s : zSt) (v : Nat → Nat → Bool) : s_held (u_fails s v) = s_held s := rfl
theorem y_held_taken (s : zSt) (v : Nat → Nat → Bool) : s_held (u_taken s v) = s_held s := rfl
theorem y_held_acks (s : zSt) (v : List (Nat × Nat)) : s_held (u_acks s v) = s_held s := rfl
theorem y_M_N (s : zSt) (v : Nat) : s_M (u_N s v) = s_M s := rfl
theorem y_M_C (s : zSt) (v : Nat) : s_M (u_C s v) = s_M s := rfl
theorem y_M_fr (s : zSt) (v : Nat → Option Nat) : s_M (u_fr s v) = s_M s := rfl
theorem y_M_to (s : zSt) (v : Nat → Nat) : s_M (u_to s v) = s_M s := rfl
theorem y_M_tol (s : zSt) (v : Bool) : s_M (u_tol s v) = s_M s := rfl
theorem y_M_sum (s : zSt) (v : Nat → Int64) : s_M (u_sum s v) = s_M s := rfl
theorem y_M_rows (s : zSt) (v : Nat → Int32) : s_M (u_rows s v) = s_M s := rfl
theorem y_M_ended (s : zSt) (v : Nat → Bool) : s_M (u_ended s v) = s_M s := rfl
theorem y_M_latest (s : zSt) (v : Nat → Option Nat) : s_M (u_latest s v) = s_M s := rfl
theorem y_M_q (s : zSt) (v : Nat → List (Nat × Int64)) : s_M (u_q s v) = s_M s := rfl
theorem y_M_log (s : zSt) (v : Nat → List Int64) : s_M (u_log s v) = s_M s := rfl
theorem y_M_fin (s : zSt) (v : Nat → Bool) : s_M (u_fin s v) = s_M s := rfl
theorem y_M_stand (s : zSt) (v : Nat → Nat) : s_M (u_stand s v) = s_M s := rfl
theorem y_M_over (s : zSt) (v : Nat → Bool) : s_M (u_over s v) = s_M s := rfl
theorem y_M_held (s : zSt) (v : Nat → Option Nat) : s_M (u_held s v) = s_M s := rfl
theorem y_M_cond (s : zSt) (v : Nat → Nat) : s_M (u_cond s v) = s_M s := rfl
theorem y_M_pos (s : zSt) (v : Nat → Nat → Nat) : s_M (u_pos s v) = s_M s := rfl
theorem y_M_came (s : zSt) (v : Nat → Nat → Bool) : s_M (u_came s v) = s_M s := rfl
theorem y_M_kept (s : zSt) (v : Nat → Nat → Bool) : s_M (u_kept s v) = s_M s := rfl
theorem y_M_kEnd (s : zSt) (v : Nat → Nat → Bool) : s_M (u_kEnd s v) = s_M s := rfl
theorem y_M_kSum (s : zSt) (v : Nat → Nat → Int64) : s_M (u_kSum s v) = s_M s := rfl
theorem y_M_kRows (s : zSt) (v : Nat → Nat → Int32) : s_M (u_kRows s v) = s_M s := rfl
theorem y_M_fails (s : zSt) (v : Nat → Nat → Bool) : s_M (u_fails s v) = s_M s := rfl
theorem y_M_taken (s : zSt) (v : Nat → Nat → Bool) : s_M (u_taken s v) = s_M s := rfl
theorem y_M_acks (s : zSt) (v : List (Nat × Nat)) : s_M (u_acks s v) = s_M s := rfl
theorem y_cond_N (s : zSt) (v : Nat) : s_cond (u_N s v) = s_cond s := rfl
theorem y_cond_C (s : zSt) (v : Nat) : s_cond (u_C s v) = s_cond s := rfl
theorem y_cond_fr (s : zSt) (v : Nat → Option Nat) : s_cond (u_fr s v) = s_cond s := rfl
theorem y_cond_to (s : zSt) (v : Nat → Nat) : s_cond (u_to s v) = s_cond s := rfl
theorem y_cond_tol (s : zSt) (v : Bool) : s_cond (u_tol s v) = s_cond s := rfl
theorem y_cond_sum (s : zSt) (v : Nat → Int64) : s_cond (u_sum s v) = s_cond s := rfl
theorem y_cond_rows (s : zSt) (v : Nat → Int32) : s_cond (u_rows s v) = s_cond s := rfl
theorem y_cond_ended (s : zSt) (v : Nat → Bool) : s_cond (u_ended s v) = s_cond s := rfl
theorem y_cond_latest (s : zSt) (v : Nat → Option Nat) : s_cond (u_latest s v) = s_cond s := rfl
theorem y_cond_q (s : zSt) (v : Nat → List (Nat × Int64)) : s_cond (u_q s v) = s_cond s := rfl
theorem y_cond_log (s : zSt) (v : Nat → List Int64) : s_cond (u_log s v) = s_cond s := rfl
theorem y_cond_fin (s : zSt) (v : Nat → Bool) : s_cond (u_fin s v) = s_cond s := rfl
theorem y_cond_stand (s : zSt) (v : Nat → Nat) : s_cond (u_stand s v) = s_cond s := rfl
theorem y_cond_over (s : zSt) (v : Nat → Bool) : s_cond (u_over s v) = s_cond s := rfl
theorem y_cond_held (s : zSt) (v : Nat → Option Nat) : s_cond (u_held s v) = s_cond s := rfl
theorem y_cond_M (s : zSt) (v : Nat) : s_cond (u_M s v) = s_cond s := rfl
theorem y_cond_pos (s : zSt) (v : Nat → Nat → Nat) : s_cond (u_pos s v) = s_cond s := rfl
theorem y_cond_came (s : zSt) (v : Nat → Nat → Bool) : s_cond (u_came s v) = s_cond s := rfl
theorem y_cond_kept (s : zSt) (v : Nat → Nat → Bool) : s_cond (u_kept s v) = s_cond s := rfl
theorem y_cond_kEnd (s : zSt) (v : Nat → Nat → Bool) : s_cond (u_kEnd s v) = s_cond s := rfl
theorem y_cond_kSum (s : zSt) (v : Nat → Nat → Int64) : s_cond (u_kSum s v) = s_cond s := rfl
theorem y_cond_kRows (s : zSt) (v : Nat → Nat → Int32) : s_cond (u_kRows s v) = s_cond s := rfl
theorem y_cond_fails (s : zSt) (v : Nat → Nat → Bool) : s_cond (u_fails s v) = s_cond s := rfl
theorem y_cond_taken (s : zSt) (v : Nat → Nat → Bool) : s_cond (u_taken s v) = s_cond s := rfl
theorem y_cond_acks (s : zSt) (v : List (Nat × Nat)) : s_cond (u_acks s v) = s_cond s := rfl
theorem y_pos_N (s : zSt) (v : Nat) : s_pos (u_N s v) = s_pos s := rfl
theorem y_pos_C (s : zSt) (v : Nat) : s_pos (u_C s v) = s_pos s := rfl
theorem y_pos_fr (s : zSt) (v : Nat → Option Nat) : s_pos (u_fr s v) = s_pos s := rfl
theorem y_pos_to (s : zSt) (v : Nat → Nat) : s_pos (u_to s v) = s_pos s := rfl
theorem y_pos_tol (s : zSt) (v : Bool) : s_pos (u_tol s v) = s_pos s := rfl
theorem y_pos_sum (s : zSt) (v : Nat → Int64) : s_pos (u_sum s v) = s_pos s := rfl
theorem y_pos_rows (s : zSt) (v : Nat → Int32) : s_pos (u_rows s v) = s_pos s := rfl
theorem y_pos_ended (s : zSt) (v : Nat → Bool) : s_pos (u_ended s v) = s_pos s := rfl
theorem y_pos_latest (s : zSt) (v : Nat → Option Nat) : s_pos (u_latest s v) = s_pos s := rfl
theorem y_pos_q (s : zSt) (v : Nat → List (Nat × Int64)) : s_pos (u_q s v) = s_pos s := rfl
theorem y_pos_log (s : zSt) (v : Nat → List Int64) : s_pos (u_log s v) = s_pos s := rfl
theorem y_pos_fin (s : zSt) (v : Nat → Bool) : s_pos (u_fin s v) = s_pos s := rfl
theorem y_pos_stand (s : zSt) (v : Nat → Nat) : s_pos (u_stand s v) = s_pos s := rfl
theorem y_pos_over (s : zSt) (v : Nat → Bool) : s_pos (u_over s v) = s_pos s := rfl
theorem y_pos_held (s : zSt) (v : Nat → Option Nat) : s_pos (u_held s v) = s_pos s := rfl
theorem y_pos_M (s : zSt) (v : Nat) : s_pos (u_M s v) = s_pos s := rfl
theorem y_pos_cond (s : zSt) (v : Nat → Nat) : s_pos (u_cond s v) = s_pos s := rfl
theorem y_pos_came (s : zSt) (v : Nat → Nat → Bool) : s_pos (u_came s v) = s_pos s := rfl
theorem y_pos_kept (s : zSt) (v : Nat → Nat → Bool) : s_pos (u_kept s v) = s_pos s := rfl
theorem y_pos_kEnd (s : zSt) (v : Nat → Nat → Bool) : s_pos (u_kEnd s v) = s_pos s := rfl
theorem y_pos_kSum (s : zSt) (v : Nat → Nat → Int64) : s_pos (u_kSum s v) = s_pos s := rfl
theorem y_pos_kRows (s : zSt) (v : Nat → Nat → Int32) : s_pos (u_kRows s v) = s_pos s := rfl
theorem y_pos_fails (s : zSt) (v : Nat → Nat → Bool) : s_pos (u_fails s v) = s_pos s := rfl
theorem y_pos_taken (s : zSt) (v : Nat → Nat → Bool) : s_pos (u_taken s v) = s_pos s := rfl
theorem y_pos_acks (s : zSt) (v : List (Nat × Nat)) : s_pos (u_acks s v) = s_pos s := rfl
theorem y_came_N (s : zSt) (v : Nat) : s_came (u_N s v) = s_came s := rfl
theorem y_came_C (s : zSt) (v : Nat) : s_came (u_C s v) = s_came s := rfl
theorem y_came_fr (s : zSt) (v : Nat → Option Nat) : s_came (u_fr s v) = s_came s := rfl
theorem y_came_to (s : zSt) (v : Nat → Nat) : s_came (u_to s v) = s_came s := rfl
theorem y_came_tol (s : zSt) (v : Bool) : s_came (u_tol s v) = s_came s := rfl
theorem y_came_sum (s : zSt) (v : Nat → Int64) : s_came (u_sum s v) = s_came s := rfl
theorem y_came_rows (s : zSt) (v : Nat → Int32) : s_came (u_rows s v) = s_came s := rfl
theorem y_came_ended (s : zSt) (v : Nat → Bool) : s_came (u_ended s v) = s_came s := rfl
theorem y_came_latest (s : zSt) (v : Nat → Option Nat) : s_came (u_latest s v) = s_came s := rfl
theorem y_came_q (s : zSt) (v : Nat → List (Nat × Int64)) : s_came (u_q s v) = s_came s := rfl
theorem y_came_log (s : zSt) (v : Nat → List Int64) : s_came (u_log s v) = s_came s := rfl
theorem y_came_fin (s : zSt) (v : Nat → Bool) : s_came (u_fin s v) = s_came s := rfl
theorem y_came_stand (s : zSt) (v : Nat → Nat) : s_came (u_stand s v) = s_came s := rfl
theorem y_came_over (s : zSt) (v : Nat → Bool) : s_came (u_over s v) = s_came s := rfl
theorem y_came_held (s : zSt) (v : Nat → Option Nat) : s_came (u_held s v) = s_came s := rfl
theorem y_came_M (s : zSt) (v : Nat) : s_came (u_M s v) = s_came s := rfl
theorem y_came_cond (s : zSt) (v : Nat → Nat) : s_came (u_cond s v) = s_came s := rfl
theorem y_came_pos (s : zSt) (v : Nat → Nat → Nat) : s_came (u_pos s v) = s_came s := rfl
theorem y_came_kept (s : zSt) (v : Nat → Nat → Bool) : s_came (u_kept s v) = s_came s := rfl
theorem y_came_kEnd (s : zSt) (v : Nat → Nat → Bool) : s_came (u_kEnd s v) = s_came s := rfl
theorem y_came_kSum (s : zSt) (v : Nat → Nat → Int64) : s_came (u_kSum s v) = s_came s := rfl
theorem y_came_kRows (s : zSt) (v : Nat → Nat → Int32) : s_came (u_kRows s v) = s_came s := rfl
theorem y_came_fails (s : zSt) (v : Nat → Nat → Bool) : s_came (u_fails s v) = s_came s := rfl
theorem y_came_taken (s : zSt) (v : Nat → Nat → Bool) : s_came (u_taken s v) = s_came s := rfl
theorem y_came_acks (s : zSt) (v : List (Nat × Nat)) : s_came (u_acks s v) = s_came s := rfl
theorem y_kept_N (s : zSt) (v : Nat) : s_kept (u_N s v) = s_kept s := rfl
theorem y_kept_C (s : zSt) (v : Nat) : s_kept (u_C s v) = s_kept s := rfl
theorem y_kept_fr (s : zSt) (v : Nat → Option Nat) : s_kept (u_fr s v) = s_kept s := rfl
theorem y_kept_to (s : zSt) (v : Nat → Nat) : s_kept (u_to s v) = s_kept s := rfl
theorem y_kept_tol (s : zSt) (v : Bool) : s_kept (u_tol s v) = s_kept s := rfl
theorem y_kept_sum (s : zSt) (v : Nat → Int64) : s_kept (u_sum s v) = s_kept s := rfl
theorem y_kept_rows (s : zSt) (v : Nat → Int32) : s_kept (u_rows s v) = s_kept s := rfl
theorem y_kept_ended (s : zSt) (v : Nat → Bool) : s_kept (u_ended s v) = s_kept s := rfl
theorem y_kept_latest (s : zSt) (v : Nat → Option Nat) : s_kept (u_latest s v) = s_kept s := rfl
theorem y_kept_q (s : zSt) (v : Nat → List (Nat × Int64)) : s_kept (u_q s v) = s_kept s := rfl
theorem y_kept_log (s : zSt) (v : Nat → List Int64) : s_kept (u_log s v) = s_kept s := rfl
theorem y_kept_fin (s : zSt) (v : Nat → Bool) : s_kept (u_fin s v) = s_kept s := rfl
theorem y_kept_stand (s : zSt) (v : Nat → Nat) : s_kept (u_stand s v) = s_kept s := rfl
theorem y_kept_over (s : zSt) (v : Nat → Bool) : s_kept (u_over s v) = s_kept s := rfl
theorem y_kept_held (s : zSt) (v : Nat → Option Nat) : s_kept (u_held s v) = s_kept s := rfl
theorem y_kept_M (s : zSt) (v : Nat) : s_kept (u_M s v) = s_kept s := rfl
theorem y_kept_cond (s : zSt) (v : Nat → Nat) : s_kept (u_cond s v) = s_kept s := rfl
theorem y_kept_pos (s : zSt) (v : Nat → Nat → Nat) : s_kept (u_pos s v) = s_kept s := rfl
theorem y_kept_came (s : zSt) (v : Nat → Nat → Bool) : s_kept (u_came s v) = s_kept s := rfl
theorem y_kept_kEnd (s : zSt) (v : Nat → Nat → Bool) : s_kept (u_kEnd s v) = s_kept s := rfl
theorem y_kept_kSum (s : zSt) (v : Nat → Nat → Int64) : s_kept (u_kSum s v) = s_kept s := rfl
theorem y_kept_kRows (s : zSt) (v : Nat → Nat → Int32) : s_kept (u_kRows s v) = s_kept s := rfl
theorem y_kept_fails (s : zSt) (v : Nat → Nat → Bool) : s_kept (u_fails s v) = s_kept s := rfl
theorem y_kept_taken (s : zSt) (v : Nat → Nat → Bool) : s_kept (u_taken s v) = s_kept s := rfl
theorem y_kept_acks (s : zSt) (v : List (Nat × Nat)) : s_kept (u_acks s v) = s_kept s := rfl
theorem y_kEnd_N (s : zSt) (v : Nat) : s_kEnd (u_N s v) = s_kEnd s := rfl
theorem y_kEnd_C (s : zSt) (v : Nat) : s_kEnd (u_C s v) = s_kEnd s := rfl
theorem y_kEnd_fr (s : zSt) (v : Nat → Option Nat) : s_kEnd (u_fr s v) = s_kEnd s := rfl
theorem y_kEnd_to (s : zSt) (v : Nat → Nat) : s_kEnd (u_to s v) = s_kEnd s := rfl
theorem y_kEnd_tol (s : zSt) (v : Bool) : s_kEnd (u_tol s v) = s_kEnd s := rfl
theorem y_kEnd_sum (s : zSt) (v : Nat → Int64) : s_kEnd (u_sum s v) = s_kEnd s := rfl
theorem y_kEnd_rows (s : zSt) (v : Nat → Int32) : s_kEnd (u_rows s v) = s_kEnd s := rfl
theorem y_kEnd_ended (s : zSt) (v : Nat → Bool) : s_kEnd (u_ended s v) = s_kEnd s := rfl
theorem y_kEnd_latest (s : zSt) (v : Nat → Option Nat) : s_kEnd (u_latest s v) = s_kEnd s := rfl
theorem y_kEnd_q (s : zSt) (v : Nat → List (Nat × Int64)) : s_kEnd (u_q s v) = s_kEnd s := rfl
theorem y_kEnd_log (s : zSt) (v : Nat → List Int64) : s_kEnd (u_log s v) = s_kEnd s := rfl
theorem y_kEnd_fin (s : zSt) (v : Nat → Bool) : s_kEnd (u_fin s v) = s_kEnd s := rfl
theorem y_kEnd_stand (s : zSt) (v : Nat → Nat) : s_kEnd (u_stand s v) = s_kEnd s := rfl
theorem y_kEnd_over (s : zSt) (v : Nat → Bool) : s_kEnd (u_over s v) = s_kEnd s := rfl
theorem y_kEnd_held (s : zSt) (v : Nat → Option Nat) : s_kEnd (u_held s v) = s_kEnd s := rfl
theorem y_kEnd_M (s : zSt) (v : Nat) : s_kEnd (u_M s v) = s_kEnd s := rfl
theorem y_kEnd_cond (s : zSt) (v : Nat → Nat) : s_kEnd (u_cond s v) = s_kEnd s := rfl
theorem y_kEnd_pos (s : zSt) (v : Nat → Nat → Nat) : s_kEnd (u_pos s v) = s_kEnd s := rfl
theorem y_kEnd_came (s : zSt) (v : Nat → Nat → Bool) : s_kEnd (u_came s v) = s_kEnd s := rfl
theorem y_kEnd_kept (s : zSt) (v : Nat → Nat → Bool) : s_kEnd (u_kept s v) = s_kEnd s := rfl
theorem y_kEnd_kSum (s : zSt) (v : Nat → Nat → Int64) : s_kEnd (u_kSum s v) = s_kEnd s := rfl
theorem y_kEnd_kRows (s : zSt) (v : Nat → Nat → Int32) : s_kEnd (u_kRows s v) = s_kEnd s := rfl
theorem y_kEnd_fails (s : zSt) (v : Nat → Nat → Bool) : s_kEnd (u_fails s v) = s_kEnd s := rfl
theorem y_kEnd_taken (s : zSt) (v : Nat → Nat → Bool) : s_kEnd (u_taken s v) = s_kEnd s := rfl
theorem y_kEnd_acks (s : zSt) (v : List (Nat × Nat)) : s_kEnd (u_acks s v) = s_kEnd s := rfl
theorem y_kSum_N (s : zSt) (v : Nat) : s_kSum (u_N s v) = s_kSum s := rfl
theorem y_kSum_C (s : zSt) (v : Nat) : s_kSum (u_C s v) = s_kSum s := rfl
theorem y_kSum_fr (s : zSt) (v : Nat → Option Nat) : s_kSum (u_fr s v) = s_kSum s := rfl
theorem y_kSum_to (s : zSt) (v : Nat → Nat) : s_kSum (u_to s v) = s_kSum s := rfl
theorem y_kSum_tol (s : zSt) (v : Bool) : s_kSum (u_tol s v) = s_kSum s := rfl
theorem y_kSum_sum (s : zSt) (v : Nat → Int64) : s_kSum (u_sum s v) = s_kSum s := rfl
theorem y_kSum_rows (s : zSt) (v : Nat → Int32) : s_kSum (u_rows s v) = s_kSum s := rfl
theorem y_kSum_ended (s : zSt) (v : Nat → Bool) : s_kSum (u_ended s v) = s_kSum s := rfl
theorem y_kSum_latest (s : zSt) (v : Nat → Option Nat) : s_kSum (u_latest s v) = s_kSum s := rfl
theorem y_kSum_q (s : zSt) (v : Nat → List (Nat × Int64)) : s_kSum (u_q s v) = s_kSum s := rfl
theorem y_kSum_log (s : zSt) (v : Nat → List Int64) : s_kSum (u_log s v) = s_kSum s := rfl
theorem y_kSum_fin (s : zSt) (v : Nat → Bool) : s_kSum (u_fin s v) = s_kSum s := rfl
theorem y_kSum_stand (s : zSt) (v : Nat → Nat) : s_kSum (u_stand s v) = s_kSum s := rfl
theorem y_kSum_over (s : zSt) (v : Nat → Bool) : s_kSum (u_over s v) = s_kSum s := rfl
theorem y_kSum_held (s : zSt) (v : Nat → Option Nat) : s_kSum (u_held s v) = s_kSum s := rfl
theorem y_kSum_M (s : zSt) (v : Nat) : s_kSum (u_M s v) = s_kSum s := rfl
theorem y_kSum_cond (s : zSt) (v : Nat → Nat) : s_kSum (u_cond s v) = s_kSum s := rfl
theorem y_kSum_pos (s : zSt) (v : Nat → Nat → Nat) : s_kSum (u_pos s v) = s_kSum s := rfl
theorem y_kSum_came (s : zSt) (v : Nat → Nat → Bool) : s_kSum (u_came s v) = s_kSum s := rfl
theorem y_kSum_kept (s : zSt) (v : Nat → Nat → Bool) : s_kSum (u_kept s v) = s_kSum s := rfl
theorem y_kSum_kEnd (s : zSt) (v : Nat → Nat → Bool) : s_kSum (u_kEnd s v) = s_kSum s := rfl
theorem y_kSum_kRows (s : zSt) (v : Nat → Nat → Int32) : s_kSum (u_kRows s v) = s_kSum s := rfl
theorem y_kSum_fails (s : zSt) (v : Nat → Nat → Bool) : s_kSum (u_fails s v) = s_kSum s := rfl
theorem y_kSum_taken (s : zSt) (v : Nat → Nat → Bool) : s_kSum (u_taken s v) = s_kSum s := rfl
theorem y_kSum_acks (s : zSt) (v : List (Nat × Nat)) : s_kSum (u_acks s v) = s_kSum s := rfl
theorem y_kRows_N (s : zSt) (v : Nat) : s_kRows (u_N s v) = s_kRows s := rfl
theorem y_kRows_C (s : zSt) (v : Nat) : s_kRows (u_C s v) = s_kRows s := rfl
theorem y_kRows_fr (s : zSt) (v : Nat → Option Nat) : s_kRows (u_fr s v) = s_kRows s := rfl
theorem y_kRows_to (s : zSt) (v : Nat → Nat) : s_kRows (u_to s v) = s_kRows s := rfl
theorem y_kRows_tol (s : zSt) (v : Bool) : s_kRows (u_tol s v) = s_kRows s := rfl
theorem y_kRows_sum (s : zSt) (v : Nat → Int64) : s_kRows (u_sum s v) = s_kRows s := rfl
theorem y_kRows_rows (s : zSt) (v : Nat → Int32) : s_kRows (u_rows s v) = s_kRows s := rfl
theorem y_kRows_ended (s : zSt) (v : Nat → Bool) : s_kRows (u_ended s v) = s_kRows s := rfl
theorem y_kRows_latest (s : zSt) (v : Nat → Option Nat) : s_kRows (u_latest s v) = s_kRows s := rfl
theorem y_kRows_q (s : zSt) (v : Nat → List (Nat × Int64)) : s_kRows (u_q s v) = s_kRows s := rfl
theorem y_kRows_log (s : zSt) (v : Nat → List Int64) : s_kRows (u_log s v) = s_kRows s := rfl
theorem y_kRows_fin (s : zSt) (v : Nat → Bool) : s_kRows (u_fin s v) = s_kRows s := rfl
theorem y_kRows_stand (s : zSt) (v : Nat → Nat) : s_kRows (u_stand s v) = s_kRows s := rfl
theorem y_kRows_over (s : zSt) (v : Nat → Bool) : s_kRows (u_over s v) = s_kRows s := rfl
theorem y_kRows_held (s : zSt) (v : Nat → Option Nat) : s_kRows (u_held s v) = s_kRows s := rfl
theorem y_kRows_M (s : zSt) (v : Nat) : s_kRows (u_M s v) = s_kRows s := rfl
theorem y_kRows_cond (s : zSt) (v : Nat → Nat) : s_kRows (u_cond s v) = s_kRows s := rfl
theorem y_kRows_pos (s : zSt) (v : Nat → Nat → Nat) : s_kRows (u_pos s v) = s_kRows s := rfl
theorem y_kRows_came (s : zSt) (v : Nat → Nat → Bool) : s_kRows (u_came s v) = s_kRows s := rfl
theorem y_kRows_kept (s : zSt) (v : Nat → Nat → Bool) : s_kRows (u_kept s v) = s_kRows s := rfl
theorem y_kRows_kEnd (s : zSt) (v : Nat → Nat → Bool) : s_kRows (u_kEnd s v) = s_kRows s := rfl
theorem y_kRows_kSum (s : zSt) (v : Nat → Nat → Int64) : s_kRows (u_kSum s v) = s_kRows s := rfl
theorem y_kRows_fails (s : zSt) (v : Nat → Nat → Bool) : s_kRows (u_fails s v) = s_kRows s := rfl
theorem y_kRows_taken (s : zSt) (v : Nat → Nat → Bool) : s_kRows (u_taken s v) = s_kRows s := rfl
theorem y_kRows_acks (s : zSt) (v : List (Nat × Nat)) : s_kRows (u_acks s v) = s_kRows s := rfl
theorem y_fails_N (s : zSt) (v : Nat) : s_fails (u_N s v) = s_fails s := rfl
theorem y_fails_C (s : zSt) (v : Nat) : s_fails (u_C s v) = s_fails s := rfl
theorem y_fails_fr (s : zSt) (v : Nat → Option Nat) : s_fails (u_fr s v) = s_fails s := rfl
theorem y_fails_to (s : zSt) (v : Nat → Nat) : s_fails (u_to s v) = s_fails s := rfl
theorem y_fails_tol (s : zSt) (v : Bool) : s_fails (u_tol s v) = s_fails s := rfl
theorem y_fails_sum (s : zSt) (v : Nat → Int64) : s_fails (u_sum s v) = s_fails s := rfl
theorem y_fails_rows (s : zSt) (v : Nat → Int32) : s_fails (u_rows s v) = s_fails s := rfl
theorem y_fails_ended (s : zSt) (v : Nat → Bool) : s_fails (u_ended s v) = s_fails s := rfl
theorem y_fails_latest (s : zSt) (v : Nat → Option Nat) : s_fails (u_latest s v) = s_fails s := rfl
theorem y_fails_q (s : zSt) (v : Nat → List (Nat × Int64)) : s_fails (u_q s v) = s_fails s := rfl
theorem y_fails_log (s : zSt) (v : Nat → List Int64) : s_fails (u_log s v) = s_fails s := rfl
theorem y_fails_fin (s : zSt) (v : Nat → Bool) : s_fails (u_fin s v) = s_fails s := rfl
theorem y_fails_stand (s : zSt) (v : Nat → Nat) : s_fails (u_stand s v) = s_fails s := rfl
theorem y_fails_over (s : zSt) (v : Nat → Bool) : s_fails (u_over s v) = s_fails s := rfl
theorem y_fails_held (s : zSt) (v : Nat → Option Nat) : s_fails (u_held s v) = s_fails s := rfl
theorem y_fails_M (s : zSt) (v : Nat) : s_fails (u_M s v) = s_fails s := rfl
theorem y_fails_cond (s : zSt) (v : Nat → Nat) : s_fails (u_cond s v) = s_fails s := rfl
theorem y_fails_pos (s : zSt) (v : Nat → Nat → Nat) : s_fails (u_pos s v) = s_fails s := rfl
theorem y_fails_came (s : zSt) (v : Nat → Nat → Bool) : s_fails (u_came s v) = s_fails s := rfl
theorem y_fails_kept (s : zSt) (v : Nat → Nat → Bool) : s_fails (u_kept s v) = s_fails s := rfl
theorem y_fails_kEnd (s : zSt) (v : Nat → Nat → Bool) : s_fails (u_kEnd s v) = s_fails s := rfl
theorem y_fails_kSum (s : zSt) (v : Nat → Nat → Int64) : s_fails (u_kSum s v) = s_fails s := rfl
theorem y_fails_kRows (s : zSt) (v : Nat → Nat → Int32) : s_fails (u_kRows s v) = s_fails s := rfl
theorem y_fails_taken (s : zSt) (v : Nat → Nat → Bool) : s_fails (u_taken s v) = s_fails s := rfl
theorem y_fails_acks (s : zSt) (v : List (Nat × Nat)) : s_fails (u_acks s v) = s_fails s := rfl
theorem y_taken_N (s : zSt) (v : Nat) : s_taken (u_N s v) = s_taken s := rfl
theorem y_taken_C (s : zSt) (v : Nat) : s_taken (u_C s v) = s_taken s := rfl
theorem y_taken_fr (s : zSt) (v : Nat → Option Nat) : s_taken (u_fr s v) = s_taken s := rfl
theorem y_taken_to (s : zSt) (v : Nat → Nat) : s_taken (u_to s v) = s_taken s := rfl
theorem y_taken_tol (s : zSt) (v : Bool) : s_taken (u_tol s v) = s_taken s := rfl
theorem y_taken_sum (s : zSt) (v : Nat → Int64) : s_taken (u_sum s v) = s_taken s := rfl
theorem y_taken_rows (s : zSt) (v : Nat → Int32) : s_taken (u_rows s v) = s_taken s := rfl
theorem y_taken_ended (s : zSt) (v : Nat → Bool) : s_taken (u_ended s v) = s_taken s := rfl
theorem y_taken_latest (s : zSt) (v : Nat → Option Nat) : s_taken (u_latest s v) = s_taken s := rfl
theorem y_taken_q (s : zSt) (v : Nat → List (Nat × Int64)) : s_taken (u_q s v) = s_taken s := rfl
theorem y_taken_log (s : zSt) (v : Nat → List Int64) : s_taken (u_log s v) = s_taken s := rfl
theorem y_taken_fin (s : zSt) (v : Nat → Bool) : s_taken (u_fin s v) = s_taken s := rfl
theorem y_taken_stand (s : zSt) (v : Nat → Nat) : s_taken (u_stand s v) = s_taken s := rfl
theorem y_taken_over (s : zSt) (v : Nat → Bool) : s_taken (u_over s v) = s_taken s := rfl
theorem y_taken_held (s : zSt) (v : Nat → Option Nat) : s_taken (u_held s v) = s_taken s := rfl
theorem y_taken_M (s : zSt) (v : Nat) : s_taken (u_M s v) = s_taken s := rfl
theorem y_taken_cond (s : zSt) (v : Nat → Nat) : s_taken (u_cond s v) = s_taken s := rfl
theorem y_taken_pos (s : zSt) (v : Nat → Nat → Nat) : s_taken (u_pos s v) = s_taken s := rfl
theorem y_taken_came (s : zSt) (v : Nat → Nat → Bool) : s_taken (u_came s v) = s_taken s := rfl
theorem y_taken_kept (s : zSt) (v : Nat → Nat → Bool) : s_taken (u_kept s v) = s_taken s := rfl
theorem y_taken_kEnd (s : zSt) (v : Nat → Nat → Bool) : s_taken (u_kEnd s v) = s_taken s := rfl
theorem y_taken_kSum (s : zSt) (v : Nat → Nat → Int64) : s_taken (u_kSum s v) = s_taken s := rfl
theorem y_taken_kRows (s : zSt) (v : Nat → Nat → Int32) : s_taken (u_kRows s v) = s_taken s := rfl
theorem y_taken_fails (s : zSt) (v : Nat → Nat → Bool) : s_taken (u_fails s v) = s_taken s := rfl
theorem y_taken_acks (s : zSt) (v : List (Nat × Nat)) : s_taken (u_acks s v) = s_taken s := rfl
theorem y_acks_N (s : zSt) (v : Nat) : s_acks (u_N s v) = s_acks s := rfl
theorem y_acks_C (s : zSt) (v : Nat) : s_acks (u_C s v) = s_acks s := rfl
theorem y_acks_fr (s : zSt) (v : Nat → Option Nat) : s_acks (u_fr s v) = s_acks s := rfl
theorem y_acks_to (s : zSt) (v : Nat → Nat) : s_acks (u_to s v) = s_acks s := rfl
theorem y_acks_tol (s : zSt) (v : Bool) : s_acks (u_tol s v) = s_acks s := rfl
theorem y_acks_sum (s : zSt) (v : Nat → Int64) : s_acks (u_sum s v) = s_acks s := rfl
theorem y_acks_rows (s : zSt) (v : Nat → Int32) : s_acks (u_rows s v) = s_acks s := rfl
theorem y_acks_ended (s : zSt) (v : Nat → Bool) : s_acks (u_ended s v) = s_acks s := rfl
theorem y_acks_latest (s : zSt) (v : Nat → Option Nat) : s_acks (u_latest s v) = s_acks s := rfl
theorem y_acks_q (s : zSt) (v : Nat → List (Nat × Int64)) : s_acks (u_q s v) = s_acks s := rfl
theorem y_acks_log (s : zSt) (v : Nat → List Int64) : s_acks (u_log s v) = s_acks s := rfl
theorem y_acks_fin (s : zSt) (v : Nat → Bool) : s_acks (u_fin s v) = s_acks s := rfl
theorem y_acks_stand (s : zSt) (v : Nat → Nat) : s_acks (u_stand s v) = s_acks s := rfl
theorem y_acks_over (s : zSt) (v : Nat → Bool) : s_acks (u_over s v) = s_acks s := rfl
theorem y_acks_held (s : zSt) (v : Nat → Option Nat) : s_acks (u_held s v) = s_acks s := rfl
theorem y_acks_M (s : zSt) (v : Nat) : s_acks (u_M s v) = s_acks s := rfl
theorem y_acks_cond (s : zSt) (v : Nat → Nat) : s_acks (u_cond s v) = s_acks s := rfl
theorem y_acks_pos (s : zSt) (v : Nat → Nat → Nat) : s_acks (u_pos s v) = s_acks s := rfl
theorem y_acks_came (s : zSt) (v : Nat → Nat → Bool) : s_acks (u_came s v) = s_acks s := rfl
theorem y_acks_kept (s : zSt) (v : Nat → Nat → Bool) : s_acks (u_kept s v) = s_acks s := rfl
theorem y_acks_kEnd (s : zSt) (v : Nat → Nat → Bool) : s_acks (u_kEnd s v) = s_acks s := rfl
theorem y_acks_kSum (s : zSt) (v : Nat → Nat → Int64) : s_acks (u_kSum s v) = s_acks s := rfl
theorem y_acks_kRows (s : zSt) (v : Nat → Nat → Int32) : s_acks (u_kRows s v) = s_acks s := rfl
theorem y_acks_fails (s : zSt) (v : Nat → Nat → Bool) : s_acks (u_fails s v) = s_acks s := rfl
theorem y_acks_taken (s : zSt) (v : Nat → Nat → Bool) : s_acks (u_taken s v) = s_acks s := rfl
