/-! derived functions of the mathematical state -/
def dueS (s : zSt) (c : Nat) : List Nat := (List.range (s_M s)).filter fun m => s_cond s m == 0 && !s_came s m c
/-- the begun marks that a task has not kept -/
def NKs (s : zSt) (x : Nat) : List Nat := (List.range (s_M s)).filter fun m => s_cond s m == 0 && !s_kept s m x
/-- the place among the channels into it from which a task looks on -/
def look (s : zSt) (x : Nat) : Nat := match s_latest s x with
  | none => 0
  | some c => if ((ins s x).filter fun j => decide (j ≤ c)).length < (ins s x).length then ((ins s x).filter fun j => decide (j ≤ c)).length else 0
theorem d_ins_N (s : zSt) (v : Nat) : ins (u_N s v) = ins s := rfl
theorem d_ins_fr (s : zSt) (v : Nat → Option Nat) : ins (u_fr s v) = ins s := rfl
theorem d_ins_tol (s : zSt) (v : Bool) : ins (u_tol s v) = ins s := rfl
theorem d_ins_sum (s : zSt) (v : Nat → Int64) : ins (u_sum s v) = ins s := rfl
theorem d_ins_rows (s : zSt) (v : Nat → Int32) : ins (u_rows s v) = ins s := rfl
theorem d_ins_ended (s : zSt) (v : Nat → Bool) : ins (u_ended s v) = ins s := rfl
theorem d_ins_latest (s : zSt) (v : Nat → Option Nat) : ins (u_latest s v) = ins s := rfl
theorem d_ins_q (s : zSt) (v : Nat → List (Nat × Int64)) : ins (u_q s v) = ins s := rfl
theorem d_ins_log (s : zSt) (v : Nat → List Int64) : ins (u_log s v) = ins s := rfl
theorem d_ins_fin (s : zSt) (v : Nat → Bool) : ins (u_fin s v) = ins s := rfl
theorem d_ins_stand (s : zSt) (v : Nat → Nat) : ins (u_stand s v) = ins s := rfl
theorem d_ins_over (s : zSt) (v : Nat → Bool) : ins (u_over s v) = ins s := rfl
theorem d_ins_held (s : zSt) (v : Nat → Option Nat) : ins (u_held s v) = ins s := rfl
theorem d_ins_M (s : zSt) (v : Nat) : ins (u_M s v) = ins s := rfl
theorem d_ins_cond (s : zSt) (v : Nat → Nat) : ins (u_cond s v) = ins s := rfl
theorem d_ins_pos (s : zSt) (v : Nat → Nat → Nat) : ins (u_pos s v) = ins s := rfl
theorem d_ins_came (s : zSt) (v : Nat → Nat → Bool) : ins (u_came s v) = ins s := rfl
theorem d_ins_kept (s : zSt) (v : Nat → Nat → Bool) : ins (u_kept s v) = ins s := rfl
theorem d_ins_kEnd (s : zSt) (v : Nat → Nat → Bool) : ins (u_kEnd s v) = ins s := rfl
theorem d_ins_kSum (s : zSt) (v : Nat → Nat → Int64) : ins (u_kSum s v) = ins s := rfl
theorem d_ins_kRows (s : zSt) (v : Nat → Nat → Int32) : ins (u_kRows s v) = ins s := rfl
theorem d_ins_fails (s : zSt) (v : Nat → Nat → Bool) : ins (u_fails s v) = ins s := rfl
theorem d_ins_taken (s : zSt) (v : Nat → Nat → Bool) : ins (u_taken s v) = ins s := rfl
theorem d_ins_acks (s : zSt) (v : List (Nat × Nat)) : ins (u_acks s v) = ins s := rfl
theorem d_outs_N (s : zSt) (v : Nat) : outs (u_N s v) = outs s := rfl
theorem d_outs_to (s : zSt) (v : Nat → Nat) : outs (u_to s v) = outs s := rfl
theorem d_outs_tol (s : zSt) (v : Bool) : outs (u_tol s v) = outs s := rfl
theorem d_outs_sum (s : zSt) (v : Nat → Int64) : outs (u_sum s v) = outs s := rfl
theorem d_outs_rows (s : zSt) (v : Nat → Int32) : outs (u_rows s v) = outs s := rfl
theorem d_outs_ended (s : zSt) (v : Nat → Bool) : outs (u_ended s v) = outs s := rfl
theorem d_outs_latest (s : zSt) (v : Nat → Option Nat) : outs (u_latest s v) = outs s := rfl
theorem d_outs_q (s : zSt) (v : Nat → List (Nat × Int64)) : outs (u_q s v) = outs s := rfl
theorem d_outs_log (s : zSt) (v : Nat → List Int64) : outs (u_log s v) = outs s := rfl
theorem d_outs_fin (s : zSt) (v : Nat → Bool) : outs (u_fin s v) = outs s := rfl
theorem d_outs_stand (s : zSt) (v : Nat → Nat) : outs (u_stand s v) = outs s := rfl
theorem d_outs_over (s : zSt) (v : Nat → Bool) : outs (u_over s v) = outs s := rfl
theorem d_outs_held (s : zSt) (v : Nat → Option Nat) : outs (u_held s v) = outs s := rfl
theorem d_outs_M (s : zSt) (v : Nat) : outs (u_M s v) = outs s := rfl
theorem d_outs_cond (s : zSt) (v : Nat → Nat) : outs (u_cond s v) = outs s := rfl
theorem d_outs_pos (s : zSt) (v : Nat → Nat → Nat) : outs (u_pos s v) = outs s := rfl
theorem d_outs_came (s : zSt) (v : Nat → Nat → Bool) : outs (u_came s v) = outs s := rfl
theorem d_outs_kept (s : zSt) (v : Nat → Nat → Bool) : outs (u_kept s v) = outs s := rfl
theorem d_outs_kEnd (s : zSt) (v : Nat → Nat → Bool) : outs (u_kEnd s v) = outs s := rfl
theorem d_outs_kSum (s : zSt) (v : Nat → Nat → Int64) : outs (u_kSum s v) = outs s := rfl
theorem d_outs_kRows (s : zSt) (v : Nat → Nat → Int32) : outs (u_kRows s v) = outs s := rfl
theorem d_outs_fails (s : zSt) (v : Nat → Nat → Bool) : outs (u_fails s v) = outs s := rfl
theorem d_outs_taken (s : zSt) (v : Nat → Nat → Bool) : outs (u_taken s v) = outs s := rfl
theorem d_outs_acks (s : zSt) (v : List (Nat × Nat)) : outs (u_acks s v) = outs s := rfl
theorem d_hasIn_N (s : zSt) (v : Nat) : hasIn (u_N s v) = hasIn s := rfl
theorem d_hasIn_fr (s : zSt) (v : Nat → Option Nat) : hasIn (u_fr s v) = hasIn s := rfl
theorem d_hasIn_tol (s : zSt) (v : Bool) : hasIn (u_tol s v) = hasIn s := rfl
theorem d_hasIn_sum (s : zSt) (v : Nat → Int64) : hasIn (u_sum s v) = hasIn s := rfl
theorem d_hasIn_rows (s : zSt) (v : Nat → Int32) : hasIn (u_rows s v) = hasIn s := rfl
theorem d_hasIn_ended (s : zSt) (v : Nat → Bool) : hasIn (u_ended s v) = hasIn s := rfl
theorem d_hasIn_latest (s : zSt) (v : Nat → Option Nat) : hasIn (u_latest s v) = hasIn s := rfl
theorem d_hasIn_q (s : zSt) (v : Nat → List (Nat × Int64)) : hasIn (u_q s v) = hasIn s := rfl
theorem d_hasIn_log (s : zSt) (v : Nat → List Int64) : hasIn (u_log s v) = hasIn s := rfl
theorem d_hasIn_fin (s : zSt) (v : Nat → Bool) : hasIn (u_fin s v) = hasIn s := rfl
theorem d_hasIn_stand (s : zSt) (v : Nat → Nat) : hasIn (u_stand s v) = hasIn s := rfl
theorem d_hasIn_over (s : zSt) (v : Nat → Bool) : hasIn (u_over s v) = hasIn s := rfl
theorem d_hasIn_held (s : zSt) (v : Nat → Option Nat) : hasIn (u_held s v) = hasIn s := rfl
theorem d_hasIn_M (s : zSt) (v : Nat) : hasIn (u_M s v) = hasIn s := rfl
theorem d_hasIn_cond (s : zSt) (v : Nat → Nat) : hasIn (u_cond s v) = hasIn s := rfl
theorem d_hasIn_pos (s : zSt) (v : Nat → Nat → Nat) : hasIn (u_pos s v) = hasIn s := rfl
theorem d_hasIn_came (s : zSt) (v : Nat → Nat → Bool) : hasIn (u_came s v) = hasIn s := rfl
theorem d_hasIn_kept (s : zSt) (v : Nat → Nat → Bool) : hasIn (u_kept s v) = hasIn s := rfl
theorem d_hasIn_kEnd (s : zSt) (v : Nat → Nat → Bool) : hasIn (u_kEnd s v) = hasIn s := rfl
theorem d_hasIn_kSum (s : zSt) (v : Nat → Nat → Int64) : hasIn (u_kSum s v) = hasIn s := rfl
theorem d_hasIn_kRows (s : zSt) (v : Nat → Nat → Int32) : hasIn (u_kRows s v) = hasIn s := rfl
theorem d_hasIn_fails (s : zSt) (v : Nat → Nat → Bool) : hasIn (u_fails s v) = hasIn s := rfl
theorem d_hasIn_taken (s : zSt) (v : Nat → Nat → Bool) : hasIn (u_taken s v) = hasIn s := rfl
theorem d_hasIn_acks (s : zSt) (v : List (Nat × Nat)) : hasIn (u_acks s v) = hasIn s := rfl
theorem d_dueS_N (s : zSt) (v : Nat) : dueS (u_N s v) = dueS s := rfl
theorem d_dueS_C (s : zSt) (v : Nat) : dueS (u_C s v) = dueS s := rfl
theorem d_dueS_fr (s : zSt) (v : Nat → Option Nat) : dueS (u_fr s v) = dueS s := rfl
theorem d_dueS_to (s : zSt) (v : Nat → Nat) : dueS (u_to s v) = dueS s := rfl
theorem d_dueS_tol (s : zSt) (v : Bool) : dueS (u_tol s v) = dueS s := rfl
theorem d_dueS_sum (s : zSt) (v : Nat → Int64) : dueS (u_sum s v) = dueS s := rfl
theorem d_dueS_rows (s : zSt) (v : Nat → Int32) : dueS (u_rows s v) = dueS s := rfl
theorem d_dueS_ended (s : zSt) (v : Nat → Bool) : dueS (u_ended s v) = dueS s := rfl
theorem d_dueS_latest (s : zSt) (v : Nat → Option Nat) : dueS (u_latest s v) = dueS s := rfl
theorem d_dueS_q (s : zSt) (v : Nat → List (Nat × Int64)) : dueS (u_q s v) = dueS s := rfl
theorem d_dueS_log (s : zSt) (v : Nat → List Int64) : dueS (u_log s v) = dueS s := rfl
theorem d_dueS_fin (s : zSt) (v : Nat → Bool) : dueS (u_fin s v) = dueS s := rfl
theorem d_dueS_stand (s : zSt) (v : Nat → Nat) : dueS (u_stand s v) = dueS s := rfl
theorem d_dueS_over (s : zSt) (v : Nat → Bool) : dueS (u_over s v) = dueS s := rfl
theorem d_dueS_held (s : zSt) (v : Nat → Option Nat) : dueS (u_held s v) = dueS s := rfl
theorem d_dueS_pos (s : zSt) (v : Nat → Nat → Nat) : dueS (u_pos s v) = dueS s := rfl
theorem d_dueS_kept (s : zSt) (v : Nat → Nat → Bool) : dueS (u_kept s v) = dueS s := rfl
theorem d_dueS_kEnd (s : zSt) (v : Nat → Nat → Bool) : dueS (u_kEnd s v) = dueS s := rfl
theorem d_dueS_kSum (s : zSt) (v : Nat → Nat → Int64) : dueS (u_kSum s v) = dueS s := rfl
theorem d_dueS_kRows (s : zSt) (v : Nat → Nat → Int32) : dueS (u_kRows s v) = dueS s := rfl
theorem d_dueS_fails (s : zSt) (v : Nat → Nat → Bool) : dueS (u_fails s v) = dueS s := rfl
theorem d_dueS_taken (s : zSt) (v : Nat → Nat → Bool) : dueS (u_taken s v) = dueS s := rfl
theorem d_dueS_acks (s : zSt) (v : List (Nat × Nat)) : dueS (u_acks s v) = dueS s := rfl
theorem d_look_N (s : zSt) (v : Nat) : look (u_N s v) = look s := rfl
theorem d_look_fr (s : zSt) (v : Nat → Option Nat) : look (u_fr s v) = look s := rfl
theorem d_look_tol (s : zSt) (v : Bool) : look (u_tol s v) = look s := rfl
theorem d_look_sum (s : zSt) (v : Nat → Int64) : look (u_sum s v) = look s := rfl
theorem d_look_rows (s : zSt) (v : Nat → Int32) : look (u_rows s v) = look s := rfl
theorem d_look_ended (s : zSt) (v : Nat → Bool) : look (u_ended s v) = look s := rfl
theorem d_look_q (s : zSt) (v : Nat → List (Nat × Int64)) : look (u_q s v) = look s := rfl
theorem d_look_log (s : zSt) (v : Nat → List Int64) : look (u_log s v) = look s := rfl
theorem d_look_fin (s : zSt) (v : Nat → Bool) : look (u_fin s v) = look s := rfl
theorem d_look_stand (s : zSt) (v : Nat → Nat) : look (u_stand s v) = look s := rfl
theorem d_look_over (s : zSt) (v : Nat → Bool) : look (u_over s v) = look s := rfl
theorem d_look_held (s : zSt) (v : Nat → Option Nat) : look (u_held s v) = look s := rfl
theorem d_look_M (s : zSt) (v : Nat) : look (u_M s v) = look s := rfl
theorem d_look_cond (s : zSt) (v : Nat → Nat) : look (u_cond s v) = look s := rfl
theorem d_look_pos (s : zSt) (v : Nat → Nat → Nat) : look (u_pos s v) = look s := rfl
theorem d_look_came (s : zSt) (v : Nat → Nat → Bool) : look (u_came s v) = look s := rfl
theorem d_look_kept (s : zSt) (v : Nat → Nat → Bool) : look (u_kept s v) = look s := rfl
theorem d_look_kEnd (s : zSt) (v : Nat → Nat → Bool) : look (u_kEnd s v) = look s := rfl
theorem d_look_kSum (s : zSt) (v : Nat → Nat → Int64) : look (u_kSum s v) = look s := rfl
theorem d_look_kRows (s : zSt) (v : Nat → Nat → Int32) : look (u_kRows s v) = look s := rfl
theorem d_look_fails (s : zSt) (v : Nat → Nat → Bool) : look (u_fails s v) = look s := rfl
theorem d_look_taken (s : zSt) (v : Nat → Nat → Bool) : look (u_taken s v) = look s := rfl
theorem d_look_acks (s : zSt) (v : List (Nat × Nat)) : look (u_acks s v) = look s := rfl
theorem d_begunS_N (s : zSt) (v : Nat) : begunS (u_N s v) = begunS s := rfl
theorem d_begunS_C (s : zSt) (v : Nat) : begunS (u_C s v) = begunS s := rfl
theorem d_begunS_fr (s : zSt) (v : Nat → Option Nat) : begunS (u_fr s v) = begunS s := rfl
theorem d_begunS_to (s : zSt) (v : Nat → Nat) : begunS (u_to s v) = begunS s := rfl
theorem d_begunS_tol (s : zSt) (v : Bool) : begunS (u_tol s v) = begunS s := rfl
theorem d_begunS_sum (s : zSt) (v : Nat → Int64) : begunS (u_sum s v) = begunS s := rfl
theorem d_begunS_rows (s : zSt) (v : Nat → Int32) : begunS (u_rows s v) = begunS s := rfl
theorem d_begunS_ended (s : zSt) (v : Nat → Bool) : begunS (u_ended s v) = begunS s := rfl
theorem d_begunS_latest (s : zSt) (v : Nat → Option Nat) : begunS (u_latest s v) = begunS s := rfl
theorem d_begunS_q (s : zSt) (v : Nat → List (Nat × Int64)) : begunS (u_q s v) = begunS s := rfl
theorem d_begunS_log (s : zSt) (v : Nat → List Int64) : begunS (u_log s v) = begunS s := rfl
theorem d_begunS_fin (s : zSt) (v : Nat → Bool) : begunS (u_fin s v) = begunS s := rfl
theorem d_begunS_stand (s : zSt) (v : Nat → Nat) : begunS (u_stand s v) = begunS s := rfl
theorem d_begunS_over (s : zSt) (v : Nat → Bool) : begunS (u_over s v) = begunS s := rfl
theorem d_begunS_held (s : zSt) (v : Nat → Option Nat) : begunS (u_held s v) = begunS s := rfl
theorem d_begunS_pos (s : zSt) (v : Nat → Nat → Nat) : begunS (u_pos s v) = begunS s := rfl
theorem d_begunS_came (s : zSt) (v : Nat → Nat → Bool) : begunS (u_came s v) = begunS s := rfl
theorem d_begunS_kept (s : zSt) (v : Nat → Nat → Bool) : begunS (u_kept s v) = begunS s := rfl
theorem d_begunS_kEnd (s : zSt) (v : Nat → Nat → Bool) : begunS (u_kEnd s v) = begunS s := rfl
theorem d_begunS_kSum (s : zSt) (v : Nat → Nat → Int64) : begunS (u_kSum s v) = begunS s := rfl
theorem d_begunS_kRows (s : zSt) (v : Nat → Nat → Int32) : begunS (u_kRows s v) = begunS s := rfl
theorem d_begunS_fails (s : zSt) (v : Nat → Nat → Bool) : begunS (u_fails s v) = begunS s := rfl
theorem d_begunS_taken (s : zSt) (v : Nat → Nat → Bool) : begunS (u_taken s v) = begunS s := rfl
theorem d_begunS_acks (s : zSt) (v : List (Nat × Nat)) : begunS (u_acks s v) = begunS s := rfl
theorem d_countS_C (s : zSt) (v : Nat) : countS (u_C s v) = countS s := rfl
theorem d_countS_fr (s : zSt) (v : Nat → Option Nat) : countS (u_fr s v) = countS s := rfl
theorem d_countS_to (s : zSt) (v : Nat → Nat) : countS (u_to s v) = countS s := rfl
theorem d_countS_tol (s : zSt) (v : Bool) : countS (u_tol s v) = countS s := rfl
theorem d_countS_sum (s : zSt) (v : Nat → Int64) : countS (u_sum s v) = countS s := rfl
theorem d_countS_rows (s : zSt) (v : Nat → Int32) : countS (u_rows s v) = countS s := rfl
theorem d_countS_ended (s : zSt) (v : Nat → Bool) : countS (u_ended s v) = countS s := rfl
theorem d_countS_latest (s : zSt) (v : Nat → Option Nat) : countS (u_latest s v) = countS s := rfl
theorem d_countS_q (s : zSt) (v : Nat → List (Nat × Int64)) : countS (u_q s v) = countS s := rfl
theorem d_countS_log (s : zSt) (v : Nat → List Int64) : countS (u_log s v) = countS s := rfl
theorem d_countS_fin (s : zSt) (v : Nat → Bool) : countS (u_fin s v) = countS s := rfl
theorem d_countS_stand (s : zSt) (v : Nat → Nat) : countS (u_stand s v) = countS s := rfl
theorem d_countS_over (s : zSt) (v : Nat → Bool) : countS (u_over s v) = countS s := rfl
theorem d_countS_held (s : zSt) (v : Nat → Option Nat) : countS (u_held s v) = countS s := rfl
theorem d_countS_M (s : zSt) (v : Nat) : countS (u_M s v) = countS s := rfl
theorem d_countS_cond (s : zSt) (v : Nat → Nat) : countS (u_cond s v) = countS s := rfl
theorem d_countS_pos (s : zSt) (v : Nat → Nat → Nat) : countS (u_pos s v) = countS s := rfl
theorem d_countS_came (s : zSt) (v : Nat → Nat → Bool) : countS (u_came s v) = countS s := rfl
theorem d_countS_kept (s : zSt) (v : Nat → Nat → Bool) : countS (u_kept s v) = countS s := rfl
theorem d_countS_kEnd (s : zSt) (v : Nat → Nat → Bool) : countS (u_kEnd s v) = countS s := rfl
theorem d_countS_kSum (s : zSt) (v : Nat → Nat → Int64) : countS (u_kSum s v) = countS s := rfl
theorem d_countS_kRows (s : zSt) (v : Nat → Nat → Int32) : countS (u_kRows s v) = countS s := rfl
theorem d_countS_fails (s : zSt) (v : Nat → Nat → Bool) : countS (u_fails s v) = countS s := rfl
theorem d_countS_acks (s : zSt) (v : List (Nat × Nat)) : countS (u_acks s v) = countS s := rfl
theorem d_credit_N (s : zSt) (v : Nat) : credit (u_N s v) = credit s := rfl
theorem d_credit_to (s : zSt) (v : Nat → Nat) : credit (u_to s v) = credit s := rfl
theorem d_credit_tol (s : zSt) (v : Bool) : credit (u_tol s v) = credit s := rfl
theorem d_credit_sum (s : zSt) (v : Nat → Int64) : credit (u_sum s v) = credit s := rfl
theorem d_credit_rows (s : zSt) (v : Nat → Int32) : credit (u_rows s v) = credit s := rfl
theorem d_credit_ended (s : zSt) (v : Nat → Bool) : credit (u_ended s v) = credit s := rfl
theorem d_credit_latest (s : zSt) (v : Nat → Option Nat) : credit (u_latest s v) = credit s := rfl
theorem d_credit_log (s : zSt) (v : Nat → List Int64) : credit (u_log s v) = credit s := rfl
theorem d_credit_fin (s : zSt) (v : Nat → Bool) : credit (u_fin s v) = credit s := rfl
theorem d_credit_stand (s : zSt) (v : Nat → Nat) : credit (u_stand s v) = credit s := rfl
theorem d_credit_over (s : zSt) (v : Nat → Bool) : credit (u_over s v) = credit s := rfl
theorem d_credit_held (s : zSt) (v : Nat → Option Nat) : credit (u_held s v) = credit s := rfl
theorem d_credit_M (s : zSt) (v : Nat) : credit (u_M s v) = credit s := rfl
theorem d_credit_cond (s : zSt) (v : Nat → Nat) : credit (u_cond s v) = credit s := rfl
theorem d_credit_pos (s : zSt) (v : Nat → Nat → Nat) : credit (u_pos s v) = credit s := rfl
theorem d_credit_came (s : zSt) (v : Nat → Nat → Bool) : credit (u_came s v) = credit s := rfl
theorem d_credit_kept (s : zSt) (v : Nat → Nat → Bool) : credit (u_kept s v) = credit s := rfl
theorem d_credit_kEnd (s : zSt) (v : Nat → Nat → Bool) : credit (u_kEnd s v) = credit s := rfl
theorem d_credit_kSum (s : zSt) (v : Nat → Nat → Int64) : credit (u_kSum s v) = credit s := rfl
theorem d_credit_kRows (s : zSt) (v : Nat → Nat → Int32) : credit (u_kRows s v) = credit s := rfl
theorem d_credit_fails (s : zSt) (v : Nat → Nat → Bool) : credit (u_fails s v) = credit s := rfl
theorem d_credit_taken (s : zSt) (v : Nat → Nat → Bool) : credit (u_taken s v) = credit s := rfl
theorem d_credit_acks (s : zSt) (v : List (Nat × Nat)) : credit (u_acks s v) = credit s := rfl
theorem d_barS_N (s : zSt) (v : Nat) : barS (u_N s v) = barS s := rfl
theorem d_barS_C (s : zSt) (v : Nat) : barS (u_C s v) = barS s := rfl
theorem d_barS_fr (s : zSt) (v : Nat → Option Nat) : barS (u_fr s v) = barS s := rfl
theorem d_barS_to (s : zSt) (v : Nat → Nat) : barS (u_to s v) = barS s := rfl
theorem d_barS_tol (s : zSt) (v : Bool) : barS (u_tol s v) = barS s := rfl
theorem d_barS_sum (s : zSt) (v : Nat → Int64) : barS (u_sum s v) = barS s := rfl
theorem d_barS_rows (s : zSt) (v : Nat → Int32) : barS (u_rows s v) = barS s := rfl
theorem d_barS_ended (s : zSt) (v : Nat → Bool) : barS (u_ended s v) = barS s := rfl
theorem d_barS_latest (s : zSt) (v : Nat → Option Nat) : barS (u_latest s v) = barS s := rfl
theorem d_barS_q (s : zSt) (v : Nat → List (Nat × Int64)) : barS (u_q s v) = barS s := rfl
theorem d_barS_log (s : zSt) (v : Nat → List Int64) : barS (u_log s v) = barS s := rfl
theorem d_barS_fin (s : zSt) (v : Nat → Bool) : barS (u_fin s v) = barS s := rfl
theorem d_barS_over (s : zSt) (v : Nat → Bool) : barS (u_over s v) = barS s := rfl
theorem d_barS_held (s : zSt) (v : Nat → Option Nat) : barS (u_held s v) = barS s := rfl
theorem d_barS_kept (s : zSt) (v : Nat → Nat → Bool) : barS (u_kept s v) = barS s := rfl
theorem d_barS_kEnd (s : zSt) (v : Nat → Nat → Bool) : barS (u_kEnd s v) = barS s := rfl
theorem d_barS_kSum (s : zSt) (v : Nat → Nat → Int64) : barS (u_kSum s v) = barS s := rfl
theorem d_barS_kRows (s : zSt) (v : Nat → Nat → Int32) : barS (u_kRows s v) = barS s := rfl
theorem d_barS_fails (s : zSt) (v : Nat → Nat → Bool) : barS (u_fails s v) = barS s := rfl
theorem d_barS_taken (s : zSt) (v : Nat → Nat → Bool) : barS (u_taken s v) = barS s := rfl
theorem d_barS_acks (s : zSt) (v : List (Nat × Nat)) : barS (u_acks s v) = barS s := rfl
theorem d_nextS_N (s : zSt) (v : Nat) : nextS (u_N s v) = nextS s := rfl
theorem d_nextS_C (s : zSt) (v : Nat) : nextS (u_C s v) = nextS s := rfl
theorem d_nextS_to (s : zSt) (v : Nat → Nat) : nextS (u_to s v) = nextS s := rfl
theorem d_nextS_tol (s : zSt) (v : Bool) : nextS (u_tol s v) = nextS s := rfl
theorem d_nextS_sum (s : zSt) (v : Nat → Int64) : nextS (u_sum s v) = nextS s := rfl
theorem d_nextS_rows (s : zSt) (v : Nat → Int32) : nextS (u_rows s v) = nextS s := rfl
theorem d_nextS_ended (s : zSt) (v : Nat → Bool) : nextS (u_ended s v) = nextS s := rfl
theorem d_nextS_latest (s : zSt) (v : Nat → Option Nat) : nextS (u_latest s v) = nextS s := rfl
theorem d_nextS_held (s : zSt) (v : Nat → Option Nat) : nextS (u_held s v) = nextS s := rfl
theorem d_nextS_kept (s : zSt) (v : Nat → Nat → Bool) : nextS (u_kept s v) = nextS s := rfl
theorem d_nextS_kEnd (s : zSt) (v : Nat → Nat → Bool) : nextS (u_kEnd s v) = nextS s := rfl
theorem d_nextS_kSum (s : zSt) (v : Nat → Nat → Int64) : nextS (u_kSum s v) = nextS s := rfl
theorem d_nextS_kRows (s : zSt) (v : Nat → Nat → Int32) : nextS (u_kRows s v) = nextS s := rfl
theorem d_nextS_fails (s : zSt) (v : Nat → Nat → Bool) : nextS (u_fails s v) = nextS s := rfl
theorem d_nextS_taken (s : zSt) (v : Nat → Nat → Bool) : nextS (u_taken s v) = nextS s := rfl
theorem d_nextS_acks (s : zSt) (v : List (Nat × Nat)) : nextS (u_acks s v) = nextS s := rfl
theorem d_heldS_N (s : zSt) (v : Nat) : heldS (u_N s v) = heldS s := rfl
theorem d_heldS_fr (s : zSt) (v : Nat → Option Nat) : heldS (u_fr s v) = heldS s := rfl
theorem d_heldS_tol (s : zSt) (v : Bool) : heldS (u_tol s v) = heldS s := rfl
theorem d_heldS_sum (s : zSt) (v : Nat → Int64) : heldS (u_sum s v) = heldS s := rfl
theorem d_heldS_rows (s : zSt) (v : Nat → Int32) : heldS (u_rows s v) = heldS s := rfl
theorem d_heldS_ended (s : zSt) (v : Nat → Bool) : heldS (u_ended s v) = heldS s := rfl
theorem d_heldS_latest (s : zSt) (v : Nat → Option Nat) : heldS (u_latest s v) = heldS s := rfl
theorem d_heldS_q (s : zSt) (v : Nat → List (Nat × Int64)) : heldS (u_q s v) = heldS s := rfl
theorem d_heldS_log (s : zSt) (v : Nat → List Int64) : heldS (u_log s v) = heldS s := rfl
theorem d_heldS_fin (s : zSt) (v : Nat → Bool) : heldS (u_fin s v) = heldS s := rfl
theorem d_heldS_stand (s : zSt) (v : Nat → Nat) : heldS (u_stand s v) = heldS s := rfl
theorem d_heldS_over (s : zSt) (v : Nat → Bool) : heldS (u_over s v) = heldS s := rfl
theorem d_heldS_M (s : zSt) (v : Nat) : heldS (u_M s v) = heldS s := rfl
theorem d_heldS_cond (s : zSt) (v : Nat → Nat) : heldS (u_cond s v) = heldS s := rfl
theorem d_heldS_pos (s : zSt) (v : Nat → Nat → Nat) : heldS (u_pos s v) = heldS s := rfl
theorem d_heldS_came (s : zSt) (v : Nat → Nat → Bool) : heldS (u_came s v) = heldS s := rfl
theorem d_heldS_kept (s : zSt) (v : Nat → Nat → Bool) : heldS (u_kept s v) = heldS s := rfl
theorem d_heldS_kEnd (s : zSt) (v : Nat → Nat → Bool) : heldS (u_kEnd s v) = heldS s := rfl
theorem d_heldS_kSum (s : zSt) (v : Nat → Nat → Int64) : heldS (u_kSum s v) = heldS s := rfl
theorem d_heldS_kRows (s : zSt) (v : Nat → Nat → Int32) : heldS (u_kRows s v) = heldS s := rfl
theorem d_heldS_fails (s : zSt) (v : Nat → Nat → Bool) : heldS (u_fails s v) = heldS s := rfl
theorem d_heldS_taken (s : zSt) (v : Nat → Nat → Bool) : heldS (u_taken s v) = heldS s := rfl
theorem d_heldS_acks (s : zSt) (v : List (Nat × Nat)) : heldS (u_acks s v) = heldS s := rfl
theorem d_NKs_N (s : zSt) (v : Nat) : NKs (u_N s v) = NKs s := rfl
theorem d_NKs_C (s : zSt) (v : Nat) : NKs (u_C s v) = NKs s := rfl
theorem d_NKs_fr (s : zSt) (v : Nat → Option Nat) : NKs (u_fr s v) = NKs s := rfl
theorem d_NKs_to (s : zSt) (v : Nat → Nat) : NKs (u_to s v) = NKs s := rfl
theorem d_NKs_tol (s : zSt) (v : Bool) : NKs (u_tol s v) = NKs s := rfl
theorem d_NKs_sum (s : zSt) (v : Nat → Int64) : NKs (u_sum s v) = NKs s := rfl
theorem d_NKs_rows (s : zSt) (v : Nat → Int32) : NKs (u_rows s v) = NKs s := rfl
theorem d_NKs_ended (s : zSt) (v : Nat → Bool) : NKs (u_ended s v) = NKs s := rfl
theorem d_NKs_latest (s : zSt) (v : Nat → Option Nat) : NKs (u_latest s v) = NKs s := rfl
theorem d_NKs_q (s : zSt) (v : Nat → List (Nat × Int64)) : NKs (u_q s v) = NKs s := rfl
theorem d_NKs_log (s : zSt) (v : Nat → List Int64) : NKs (u_log s v) = NKs s := rfl
theorem d_NKs_fin (s : zSt) (v : Nat → Bool) : NKs (u_fin s v) = NKs s := rfl
theorem d_NKs_stand (s : zSt) (v : Nat → Nat) : NKs (u_stand s v) = NKs s := rfl
theorem d_NKs_over (s : zSt) (v : Nat → Bool) : NKs (u_over s v) = NKs s := rfl
theorem d_NKs_held (s : zSt) (v : Nat → Option Nat) : NKs (u_held s v) = NKs s := rfl
theorem d_NKs_pos (s : zSt) (v : Nat → Nat → Nat) : NKs (u_pos s v) = NKs s := rfl
theorem d_NKs_came (s : zSt) (v : Nat → Nat → Bool) : NKs (u_came s v) = NKs s := rfl
theorem d_NKs_kEnd (s : zSt) (v : Nat → Nat → Bool) : NKs (u_kEnd s v) = NKs s := rfl
theorem d_NKs_kSum (s : zSt) (v : Nat → Nat → Int64) : NKs (u_kSum s v) = NKs s := rfl
theorem d_NKs_kRows (s : zSt) (v : Nat → Nat → Int32) : NKs (u_kRows s v) = NKs s := rfl
theorem d_NKs_fails (s : zSt) (v : Nat → Nat → Bool) : NKs (u_fails s v) = NKs s := rfl
theorem d_NKs_taken (s : zSt) (v : Nat → Nat → Bool) : NKs (u_taken s v) = NKs s := rfl
theorem d_NKs_acks (s : zSt) (v : List (Nat × Nat)) : NKs (u_acks s v) = NKs s := rfl
