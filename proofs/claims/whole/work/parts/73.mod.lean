/-! HOW THE REFERENCE HOLDS THE MATHEMATICAL STATE -/
def b2i (b : Bool) : Int32 := if b then 1 else 0
def o2i (x : Option Nat) : Int32 := match x with
  | none => -1
  | some k => nI k
theorem b2i_01 (b : Bool) : b2i b = 0 ∨ b2i b = 1 := by cases b <;> simp [b2i]
theorem b2i_or (a b : Bool) : b2i a ||| b2i b = b2i (a || b) := by cases a <;> cases b <;> decide
theorem b2i_and (a b : Bool) : b2i a &&& b2i b = b2i (a && b) := by cases a <;> cases b <;> decide
theorem b2i_eq0 (b : Bool) : b2i b = 0 ↔ b = false := by cases b <;> decide
theorem b2i_t : b2i true = 1 := rfl
theorem b2i_f : b2i false = 0 := rfl
theorem o2i_s (k : Nat) : o2i (some k) = nI k := rfl
theorem o2i_n : o2i none = -1 := rfl
theorem nI_mul8 (m x : Nat) : (8 : Int32) * nI m + nI x = nI (8 * m + x) := by
  rw [show (8 : Int32) = nI 8 from rfl, pk_mul, nI_add]
theorem nI_mul16 (m x : Nat) : (16 : Int32) * nI m + nI x = nI (16 * m + x) := by
  rw [show (16 : Int32) = nI 16 from rfl, pk_mul, nI_add]
theorem nI_mul16' (m : Nat) : (16 : Int32) * nI m = nI (16 * m) := by
  rw [show (16 : Int32) = nI 16 from rfl, pk_mul]
theorem nI_mul200 (m x : Nat) : (200 : Int32) * nI m + nI x = nI (200 * m + x) := by
  rw [show (200 : Int32) = nI 200 from rfl, pk_mul, nI_add]
theorem nI_eq0 {a : Nat} (h : a < 2 ^ 31) : nI a = 0 ↔ a = 0 := by
  rw [show (0 : Int32) = nI 0 from rfl]; exact nI_eq h (by decide)
theorem nI_eqm1 {a : Nat} (h : a < 2 ^ 31) : nI a = -1 ↔ False := by
  constructor
  · intro q
    have e1 : (nI a).toInt = (a : Int) := nI_toInt h
    rw [q] at e1
    have : ((-1 : Int32)).toInt = -1 := by decide
    omega
  · intro q; exact q.elim
theorem o2i_m1 {x : Option Nat} (h : ∀ k, x = some k → k < 2 ^ 31) : o2i x = -1 ↔ x = none := by
  cases x with
  | none => simp [o2i]
  | some k => rw [o2i_s, nI_eqm1 (h k rfl)]; simp
theorem o2i_eq {x : Option Nat} {a : Nat} (h : ∀ k, x = some k → k < 2 ^ 31) (ha : a < 2 ^ 31) : o2i x = nI a ↔ x = some a := by
  cases x with
  | none =>
    constructor
    · intro q; exact ((nI_eqm1 ha).mp q.symm).elim
    · intro q; cases q
  | some k => rw [o2i_s, nI_eq (h k rfl) ha]; simp
theorem zF_big {k : Nat} (h : k ≤ 100000) : k < zF := by unfold zF; omega
theorem zcV_s {V : zV} {n : Nat} {K : zV → Nat → Option zR} : zcV (some (.inl none, V, n)) K = K V n := rfl
theorem zcI_s {v : Int32} {V : zV} {n : Nat} {K : Int32 → zV → Nat → Option zR} : zcI (some (.inl (some (.int v)), V, n)) K = K v V n := rfl
theorem zcL_s {v : Int64} {V : zV} {n : Nat} {K : Int64 → zV → Nat → Option zR} : zcL (some (.inl (some (.long v)), V, n)) K = K v V n := rfl
theorem rI_uI {t : pS} {k i s : Nat} {v : Nat → Int32} {k' i' s' : Nat} : rI (uI t k i s v) k' i' s' = if k' = k ∧ i' = i ∧ s' = s then v else rI t k' i' s' := rfl
theorem rI_uJ {t : pS} {k i s : Nat} {v : Nat → Int64} : rI (uJ t k i s v) = rI t := rfl
theorem rI_uR {t : pS} {k i s : Nat} {v : Nat → Option Nat} : rI (uR t k i s v) = rI t := rfl
theorem rI_wI {t : pS} {k i s : Nat} {v : Int32} : rI (wI t k i s v) = rI t := rfl
theorem rI_wJ {t : pS} {k i s : Nat} {v : Int64} : rI (wJ t k i s v) = rI t := rfl
theorem rJ_uJ {t : pS} {k i s : Nat} {v : Nat → Int64} {k' i' s' : Nat} : rJ (uJ t k i s v) k' i' s' = if k' = k ∧ i' = i ∧ s' = s then v else rJ t k' i' s' := rfl
theorem rJ_uI {t : pS} {k i s : Nat} {v : Nat → Int32} : rJ (uI t k i s v) = rJ t := rfl
theorem rJ_uR {t : pS} {k i s : Nat} {v : Nat → Option Nat} : rJ (uR t k i s v) = rJ t := rfl
theorem rJ_wI {t : pS} {k i s : Nat} {v : Int32} : rJ (wI t k i s v) = rJ t := rfl
theorem rJ_wJ {t : pS} {k i s : Nat} {v : Int64} : rJ (wJ t k i s v) = rJ t := rfl
theorem rR_uR {t : pS} {k i s : Nat} {v : Nat → Option Nat} {k' i' s' : Nat} : rR (uR t k i s v) k' i' s' = if k' = k ∧ i' = i ∧ s' = s then v else rR t k' i' s' := rfl
theorem rR_uI {t : pS} {k i s : Nat} {v : Nat → Int32} : rR (uI t k i s v) = rR t := rfl
theorem rR_uJ {t : pS} {k i s : Nat} {v : Nat → Int64} : rR (uJ t k i s v) = rR t := rfl
theorem rR_wI {t : pS} {k i s : Nat} {v : Int32} : rR (wI t k i s v) = rR t := rfl
theorem rR_wJ {t : pS} {k i s : Nat} {v : Int64} : rR (wJ t k i s v) = rR t := rfl
theorem qI_wI {t : pS} {k i s : Nat} {v : Int32} {k' i' s' : Nat} : qI (wI t k i s v) k' i' s' = if k' = k ∧ i' = i ∧ s' = s then v else qI t k' i' s' := rfl
theorem qI_wJ {t : pS} {k i s : Nat} {v : Int64} : qI (wJ t k i s v) = qI t := rfl
theorem qI_uI {t : pS} {k i s : Nat} {v : Nat → Int32} : qI (uI t k i s v) = qI t := rfl
theorem qI_uJ {t : pS} {k i s : Nat} {v : Nat → Int64} : qI (uJ t k i s v) = qI t := rfl
theorem qI_uR {t : pS} {k i s : Nat} {v : Nat → Option Nat} : qI (uR t k i s v) = qI t := rfl
theorem qJ_wJ {t : pS} {k i s : Nat} {v : Int64} {k' i' s' : Nat} : qJ (wJ t k i s v) k' i' s' = if k' = k ∧ i' = i ∧ s' = s then v else qJ t k' i' s' := rfl
theorem qJ_wI {t : pS} {k i s : Nat} {v : Int32} : qJ (wI t k i s v) = qJ t := rfl
theorem qJ_uI {t : pS} {k i s : Nat} {v : Nat → Int32} : qJ (uI t k i s v) = qJ t := rfl
theorem qJ_uJ {t : pS} {k i s : Nat} {v : Nat → Int64} : qJ (uJ t k i s v) = qJ t := rfl
theorem qJ_uR {t : pS} {k i s : Nat} {v : Nat → Option Nat} : qJ (uR t k i s v) = qJ t := rfl
/-- all numbers of the object (k, i) are the same -/
def same (t t' : pS) (k i : Nat) : Prop := qI t' k i = qI t k i ∧ qJ t' k i = qJ t k i ∧ rI t' k i = rI t k i ∧ rJ t' k i = rJ t k i ∧ rR t' k i = rR t k i
theorem same.refl (t : pS) (k i : Nat) : same t t k i := ⟨rfl, rfl, rfl, rfl, rfl⟩
theorem same.trans {t t' t'' : pS} {k i : Nat} (h : same t t' k i) (g : same t' t'' k i) : same t t'' k i := ⟨g.1.trans h.1, g.2.1.trans h.2.1, g.2.2.1.trans h.2.2.1, g.2.2.2.1.trans h.2.2.2.1, g.2.2.2.2.trans h.2.2.2.2⟩
theorem same_uI {t : pS} {k i s k' i' : Nat} {v : Nat → Int32} (h : ¬ (k' = k ∧ i' = i)) : same t (uI t k i s v) k' i' := ⟨rfl, rfl, up3_ne h, rfl, rfl⟩
theorem same_uJ {t : pS} {k i s k' i' : Nat} {v : Nat → Int64} (h : ¬ (k' = k ∧ i' = i)) : same t (uJ t k i s v) k' i' := ⟨rfl, rfl, rfl, up3_ne h, rfl⟩
theorem same_uR {t : pS} {k i s k' i' : Nat} {v : Nat → Option Nat} (h : ¬ (k' = k ∧ i' = i)) : same t (uR t k i s v) k' i' := ⟨rfl, rfl, rfl, rfl, up3_ne h⟩
theorem same_wI {t : pS} {k i s k' i' : Nat} {v : Int32} (h : ¬ (k' = k ∧ i' = i)) : same t (wI t k i s v) k' i' := ⟨up3_ne h, rfl, rfl, rfl, rfl⟩
theorem same_wJ {t : pS} {k i s k' i' : Nat} {v : Int64} (h : ¬ (k' = k ∧ i' = i)) : same t (wJ t k i s v) k' i' := ⟨rfl, up3_ne h, rfl, rfl, rfl⟩
/-- all objects but those of P are the same -/
def Fr (P : Nat → Nat → Prop) (t t' : pS) : Prop := ∀ k i, ¬ P k i → same t t' k i
theorem Fr.refl (P : Nat → Nat → Prop) (t : pS) : Fr P t t := fun _ _ _ => same.refl _ _ _
theorem Fr.trans {P : Nat → Nat → Prop} {t t' t'' : pS} (h : Fr P t t') (g : Fr P t' t'') : Fr P t t'' := fun k i q => (h k i q).trans (g k i q)
theorem Fr.mono {P Q : Nat → Nat → Prop} {t t' : pS} (h : Fr P t t') (hp : ∀ k i, P k i → Q k i) : Fr Q t t' := fun k i q => h k i (fun x => q (hp k i x))
theorem Fr.uI {P : Nat → Nat → Prop} {t t' : pS} {k i s : Nat} {v : Nat → Int32} (hp : P k i) (h : Fr P t t') : Fr P t (uI t' k i s v) := fun k' i' q => (h k' i' q).trans (same_uI (fun x => q (by rw [x.1, x.2]; exact hp)))
theorem Fr.uJ {P : Nat → Nat → Prop} {t t' : pS} {k i s : Nat} {v : Nat → Int64} (hp : P k i) (h : Fr P t t') : Fr P t (uJ t' k i s v) := fun k' i' q => (h k' i' q).trans (same_uJ (fun x => q (by rw [x.1, x.2]; exact hp)))
theorem Fr.uR {P : Nat → Nat → Prop} {t t' : pS} {k i s : Nat} {v : Nat → Option Nat} (hp : P k i) (h : Fr P t t') : Fr P t (uR t' k i s v) := fun k' i' q => (h k' i' q).trans (same_uR (fun x => q (by rw [x.1, x.2]; exact hp)))
theorem Fr.wI {P : Nat → Nat → Prop} {t t' : pS} {k i s : Nat} {v : Int32} (hp : P k i) (h : Fr P t t') : Fr P t (wI t' k i s v) := fun k' i' q => (h k' i' q).trans (same_wI (fun x => q (by rw [x.1, x.2]; exact hp)))
theorem Fr.wJ {P : Nat → Nat → Prop} {t t' : pS} {k i s : Nat} {v : Int64} (hp : P k i) (h : Fr P t t') : Fr P t (wJ t' k i s v) := fun k' i' q => (h k' i' q).trans (same_wJ (fun x => q (by rw [x.1, x.2]; exact hp)))
/-- the reference's object alone changes -/
def P6 : Nat → Nat → Prop := fun k i => k = 6 ∧ i = 0
theorem p6 : P6 6 0 := ⟨rfl, rfl⟩
/-- the reference's object alone changes, and its code doesn't -/
def Fr6 (t t' : pS) : Prop := Fr P6 t t' ∧ qI t' 6 0 1 = qI t 6 0 1
theorem Fr6.refl (t : pS) : Fr6 t t := ⟨Fr.refl _ _, rfl⟩
theorem Fr6.trans {t t' t'' : pS} (h : Fr6 t t') (g : Fr6 t' t'') : Fr6 t t'' := ⟨h.1.trans g.1, g.2.trans h.2⟩
theorem Fr6.uI {t t' : pS} {s : Nat} {v : Nat → Int32} (h : Fr6 t t') : Fr6 t (uI t' 6 0 s v) := ⟨Fr.uI p6 h.1, h.2⟩
theorem Fr6.uJ {t t' : pS} {s : Nat} {v : Nat → Int64} (h : Fr6 t t') : Fr6 t (uJ t' 6 0 s v) := ⟨Fr.uJ p6 h.1, h.2⟩
theorem Fr6.wI {t t' : pS} {s : Nat} {v : Int32} (hs : 1 ≠ s) (h : Fr6 t t') : Fr6 t (wI t' 6 0 s v) := ⟨Fr.wI p6 h.1, by rw [qI_wI, if_neg (fun q => hs q.2.2)]; exact h.2⟩
/-- the lengths of the reference's arrays -/
def lenR : List Nat := [34, 8, 8, 8, 8, 16, 16, 256, 256, 16, 3200, 16, 16, 16, 16, 16, 40, 640, 640, 320, 320, 320, 320, 320, 320, 1024, 1024, 8, 8]
/-- the reference's cells are there, with their lengths -/
def pRf (e : pE) : Prop := pOk e ∧ (∀ s, s ≤ 28 → pIs e 6 0 s) ∧ ∀ s, s ≤ 28 → e.2.2.2 6 0 s = lenR.getD s 0
def hI {α : Type} (f : Nat → α) (n : Nat) (g : Nat → α) : Prop := ∀ x, x < n → f x = g x
def h2 {α : Type} (f : Nat → α) (w a b : Nat) (g : Nat → Nat → α) : Prop := ∀ m x, m < a → x < b → f (w * m + x) = g m x
def hL {α β : Type} (f : Nat → α) (o : Nat) (l : List β) (g : β → α) : Prop := ∀ i z, l[i]? = some z → f (o + i) = g z
section PM
variable {e : pE} {t : pS} {s : zSt} {n : Nat}
theorem pRf.is (h : pRf e) {k : Nat} (hk : k ≤ 28) : pIs e 6 0 k := h.2.1 k hk
theorem pRf.len (h : pRf e) {k : Nat} (hk : k ≤ 28) : e.2.2.2 6 0 k = lenR.getD k 0 := h.2.2 k hk
theorem ro (h : pRf e) : z_obj (pv e t) (some (pL e 6 0 0)) [6] = some (pL e 6 0 0, 6, pfl e 6 0 (qI t 6 0) (qJ t 6 0)) := ob_6 (h.is (by omega))
theorem rf_0 (h : pRf e) : zgI (pv e t) (some (pL e 6 0 0)) [6] 0 = some (qI t 6 0 0) := gf_6_0 (h.is (by omega))
theorem rf_1 (h : pRf e) : zgI (pv e t) (some (pL e 6 0 0)) [6] 1 = some (qI t 6 0 1) := gf_6_1 (h.is (by omega))
theorem rp_1 (h : pRf e) (v : Int32) : zpI (pv e t) (some (pL e 6 0 0)) [6] 1 v = some (pv e (wI t 6 0 1 v)) := pf_6_1 h.1 (h.is (by omega)) v
theorem rf_2 (h : pRf e) : zgI (pv e t) (some (pL e 6 0 0)) [6] 2 = some (qI t 6 0 2) := gf_6_2 (h.is (by omega))
theorem rp_2 (h : pRf e) {v : Int32} (hv : v = 0 ∨ v = 1) : zpZ (pv e t) (some (pL e 6 0 0)) [6] 2 v = some (pv e (wI t 6 0 2 v)) := pf_6_2 h.1 (h.is (by omega)) v hv
theorem rf_3 (h : pRf e) : zgR (pv e t) (some (pL e 6 0 0)) [6] 3 = some (some (pL e 6 0 1)) := gf_6_3 (h.is (by omega))
theorem rf_4 (h : pRf e) : zgR (pv e t) (some (pL e 6 0 0)) [6] 4 = some (some (pL e 6 0 2)) := gf_6_4 (h.is (by omega))
theorem rf_5 (h : pRf e) : zgR (pv e t) (some (pL e 6 0 0)) [6] 5 = some (some (pL e 6 0 3)) := gf_6_5 (h.is (by omega))
theorem rf_6 (h : pRf e) : zgR (pv e t) (some (pL e 6 0 0)) [6] 6 = some (some (pL e 6 0 4)) := gf_6_6 (h.is (by omega))
theorem rf_7 (h : pRf e) : zgI (pv e t) (some (pL e 6 0 0)) [6] 7 = some (qI t 6 0 7) := gf_6_7 (h.is (by omega))
theorem rp_7 (h : pRf e) (v : Int32) : zpI (pv e t) (some (pL e 6 0 0)) [6] 7 v = some (pv e (wI t 6 0 7 v)) := pf_6_7 h.1 (h.is (by omega)) v
theorem rf_8 (h : pRf e) : zgR (pv e t) (some (pL e 6 0 0)) [6] 8 = some (some (pL e 6 0 5)) := gf_6_8 (h.is (by omega))
theorem rf_9 (h : pRf e) : zgR (pv e t) (some (pL e 6 0 0)) [6] 9 = some (some (pL e 6 0 6)) := gf_6_9 (h.is (by omega))
theorem rf_10 (h : pRf e) : zgR (pv e t) (some (pL e 6 0 0)) [6] 10 = some (some (pL e 6 0 7)) := gf_6_10 (h.is (by omega))
theorem rf_11 (h : pRf e) : zgR (pv e t) (some (pL e 6 0 0)) [6] 11 = some (some (pL e 6 0 8)) := gf_6_11 (h.is (by omega))
theorem rf_12 (h : pRf e) : zgR (pv e t) (some (pL e 6 0 0)) [6] 12 = some (some (pL e 6 0 9)) := gf_6_12 (h.is (by omega))
theorem rf_13 (h : pRf e) : zgR (pv e t) (some (pL e 6 0 0)) [6] 13 = some (some (pL e 6 0 10)) := gf_6_13 (h.is (by omega))
theorem rf_14 (h : pRf e) : zgR (pv e t) (some (pL e 6 0 0)) [6] 14 = some (some (pL e 6 0 11)) := gf_6_14 (h.is (by omega))
theorem rf_15 (h : pRf e) : zgR (pv e t) (some (pL e 6 0 0)) [6] 15 = some (some (pL e 6 0 12)) := gf_6_15 (h.is (by omega))
theorem rf_16 (h : pRf e) : zgR (pv e t) (some (pL e 6 0 0)) [6] 16 = some (some (pL e 6 0 13)) := gf_6_16 (h.is (by omega))
theorem rf_17 (h : pRf e) : zgR (pv e t) (some (pL e 6 0 0)) [6] 17 = some (some (pL e 6 0 14)) := gf_6_17 (h.is (by omega))
theorem rf_18 (h : pRf e) : zgR (pv e t) (some (pL e 6 0 0)) [6] 18 = some (some (pL e 6 0 15)) := gf_6_18 (h.is (by omega))
theorem rf_19 (h : pRf e) : zgI (pv e t) (some (pL e 6 0 0)) [6] 19 = some (qI t 6 0 19) := gf_6_19 (h.is (by omega))
theorem rp_19 (h : pRf e) (v : Int32) : zpI (pv e t) (some (pL e 6 0 0)) [6] 19 v = some (pv e (wI t 6 0 19 v)) := pf_6_19 h.1 (h.is (by omega)) v
theorem rf_20 (h : pRf e) : zgR (pv e t) (some (pL e 6 0 0)) [6] 20 = some (some (pL e 6 0 16)) := gf_6_20 (h.is (by omega))
theorem rf_21 (h : pRf e) : zgR (pv e t) (some (pL e 6 0 0)) [6] 21 = some (some (pL e 6 0 17)) := gf_6_21 (h.is (by omega))
theorem rf_22 (h : pRf e) : zgR (pv e t) (some (pL e 6 0 0)) [6] 22 = some (some (pL e 6 0 18)) := gf_6_22 (h.is (by omega))
theorem rf_23 (h : pRf e) : zgR (pv e t) (some (pL e 6 0 0)) [6] 23 = some (some (pL e 6 0 19)) := gf_6_23 (h.is (by omega))
theorem rf_24 (h : pRf e) : zgR (pv e t) (some (pL e 6 0 0)) [6] 24 = some (some (pL e 6 0 20)) := gf_6_24 (h.is (by omega))
theorem rf_25 (h : pRf e) : zgR (pv e t) (some (pL e 6 0 0)) [6] 25 = some (some (pL e 6 0 21)) := gf_6_25 (h.is (by omega))
theorem rf_26 (h : pRf e) : zgR (pv e t) (some (pL e 6 0 0)) [6] 26 = some (some (pL e 6 0 22)) := gf_6_26 (h.is (by omega))
theorem rf_27 (h : pRf e) : zgR (pv e t) (some (pL e 6 0 0)) [6] 27 = some (some (pL e 6 0 23)) := gf_6_27 (h.is (by omega))
theorem rf_28 (h : pRf e) : zgR (pv e t) (some (pL e 6 0 0)) [6] 28 = some (some (pL e 6 0 24)) := gf_6_28 (h.is (by omega))
theorem rf_29 (h : pRf e) : zgI (pv e t) (some (pL e 6 0 0)) [6] 29 = some (qI t 6 0 29) := gf_6_29 (h.is (by omega))
theorem rp_29 (h : pRf e) (v : Int32) : zpI (pv e t) (some (pL e 6 0 0)) [6] 29 v = some (pv e (wI t 6 0 29 v)) := pf_6_29 h.1 (h.is (by omega)) v
theorem rf_30 (h : pRf e) : zgR (pv e t) (some (pL e 6 0 0)) [6] 30 = some (some (pL e 6 0 25)) := gf_6_30 (h.is (by omega))
theorem rf_31 (h : pRf e) : zgR (pv e t) (some (pL e 6 0 0)) [6] 31 = some (some (pL e 6 0 26)) := gf_6_31 (h.is (by omega))
theorem rf_32 (h : pRf e) : zgR (pv e t) (some (pL e 6 0 0)) [6] 32 = some (some (pL e 6 0 27)) := gf_6_32 (h.is (by omega))
theorem rf_33 (h : pRf e) : zgR (pv e t) (some (pL e 6 0 0)) [6] 33 = some (some (pL e 6 0 28)) := gf_6_33 (h.is (by omega))
theorem rg_1 (h : pRf e) {x : Nat} (hx : x < 8) : zaL (pv e t) (some (pL e 6 0 1)) 1 (nI x) = some (rJ t 6 0 1 x) := by
  have hl : e.2.2.2 6 0 1 = 8 := h.len (by omega)
  exact ga_6_1 (h.is (by omega)) (by omega) (by omega)
theorem rs_1 (h : pRf e) {x : Nat} (hx : x < 8) (v : Int64) : zsL (pv e t) (some (pL e 6 0 1)) 1 (nI x) v = some (pv e (uJ t 6 0 1 (vp_updL (rJ t 6 0 1) x v))) := by
  have hl : e.2.2.2 6 0 1 = 8 := h.len (by omega)
  exact sa_6_1 h.1 (h.is (by omega)) (by omega) (by omega) v
theorem rg_2 (h : pRf e) {x : Nat} (hx : x < 8) : zaI (pv e t) (some (pL e 6 0 2)) 0 (nI x) = some (rI t 6 0 2 x) := by
  have hl : e.2.2.2 6 0 2 = 8 := h.len (by omega)
  exact ga_6_2 (h.is (by omega)) (by omega) (by omega)
theorem rs_2 (h : pRf e) {x : Nat} (hx : x < 8) (v : Int32) : zsI (pv e t) (some (pL e 6 0 2)) 0 (nI x) v = some (pv e (uI t 6 0 2 (upd (rI t 6 0 2) x v))) := by
  have hl : e.2.2.2 6 0 2 = 8 := h.len (by omega)
  exact sa_6_2 h.1 (h.is (by omega)) (by omega) (by omega) v
theorem rg_3 (h : pRf e) {x : Nat} (hx : x < 8) : zaI (pv e t) (some (pL e 6 0 3)) 2 (nI x) = some (rI t 6 0 3 x) := by
  have hl : e.2.2.2 6 0 3 = 8 := h.len (by omega)
  exact ga_6_3 (h.is (by omega)) (by omega) (by omega)
theorem rs_3 (h : pRf e) {x : Nat} {v : Int32} (hx : x < 8) (hv : v = 0 ∨ v = 1) : zsZ (pv e t) (some (pL e 6 0 3)) 2 (nI x) v = some (pv e (uI t 6 0 3 (upd (rI t 6 0 3) x v))) := by
  have hl : e.2.2.2 6 0 3 = 8 := h.len (by omega)
  exact sa_6_3 h.1 (h.is (by omega)) (by omega) (by omega) v hv
theorem rg_4 (h : pRf e) {x : Nat} (hx : x < 8) : zaI (pv e t) (some (pL e 6 0 4)) 0 (nI x) = some (rI t 6 0 4 x) := by
  have hl : e.2.2.2 6 0 4 = 8 := h.len (by omega)
  exact ga_6_4 (h.is (by omega)) (by omega) (by omega)
theorem rs_4 (h : pRf e) {x : Nat} (hx : x < 8) (v : Int32) : zsI (pv e t) (some (pL e 6 0 4)) 0 (nI x) v = some (pv e (uI t 6 0 4 (upd (rI t 6 0 4) x v))) := by
  have hl : e.2.2.2 6 0 4 = 8 := h.len (by omega)
  exact sa_6_4 h.1 (h.is (by omega)) (by omega) (by omega) v
theorem rg_5 (h : pRf e) {x : Nat} (hx : x < 16) : zaI (pv e t) (some (pL e 6 0 5)) 0 (nI x) = some (rI t 6 0 5 x) := by
  have hl : e.2.2.2 6 0 5 = 16 := h.len (by omega)
  exact ga_6_5 (h.is (by omega)) (by omega) (by omega)
theorem rs_5 (h : pRf e) {x : Nat} (hx : x < 16) (v : Int32) : zsI (pv e t) (some (pL e 6 0 5)) 0 (nI x) v = some (pv e (uI t 6 0 5 (upd (rI t 6 0 5) x v))) := by
  have hl : e.2.2.2 6 0 5 = 16 := h.len (by omega)
  exact sa_6_5 h.1 (h.is (by omega)) (by omega) (by omega) v
theorem rg_6 (h : pRf e) {x : Nat} (hx : x < 16) : zaI (pv e t) (some (pL e 6 0 6)) 0 (nI x) = some (rI t 6 0 6 x) := by
  have hl : e.2.2.2 6 0 6 = 16 := h.len (by omega)
  exact ga_6_6 (h.is (by omega)) (by omega) (by omega)
theorem rs_6 (h : pRf e) {x : Nat} (hx : x < 16) (v : Int32) : zsI (pv e t) (some (pL e 6 0 6)) 0 (nI x) v = some (pv e (uI t 6 0 6 (upd (rI t 6 0 6) x v))) := by
  have hl : e.2.2.2 6 0 6 = 16 := h.len (by omega)
  exact sa_6_6 h.1 (h.is (by omega)) (by omega) (by omega) v
theorem rg_7 (h : pRf e) {x : Nat} (hx : x < 256) : zaI (pv e t) (some (pL e 6 0 7)) 0 (nI x) = some (rI t 6 0 7 x) := by
  have hl : e.2.2.2 6 0 7 = 256 := h.len (by omega)
  exact ga_6_7 (h.is (by omega)) (by omega) (by omega)
theorem rs_7 (h : pRf e) {x : Nat} (hx : x < 256) (v : Int32) : zsI (pv e t) (some (pL e 6 0 7)) 0 (nI x) v = some (pv e (uI t 6 0 7 (upd (rI t 6 0 7) x v))) := by
  have hl : e.2.2.2 6 0 7 = 256 := h.len (by omega)
  exact sa_6_7 h.1 (h.is (by omega)) (by omega) (by omega) v
theorem rg_8 (h : pRf e) {x : Nat} (hx : x < 256) : zaL (pv e t) (some (pL e 6 0 8)) 1 (nI x) = some (rJ t 6 0 8 x) := by
  have hl : e.2.2.2 6 0 8 = 256 := h.len (by omega)
  exact ga_6_8 (h.is (by omega)) (by omega) (by omega)
theorem rs_8 (h : pRf e) {x : Nat} (hx : x < 256) (v : Int64) : zsL (pv e t) (some (pL e 6 0 8)) 1 (nI x) v = some (pv e (uJ t 6 0 8 (vp_updL (rJ t 6 0 8) x v))) := by
  have hl : e.2.2.2 6 0 8 = 256 := h.len (by omega)
  exact sa_6_8 h.1 (h.is (by omega)) (by omega) (by omega) v
theorem rg_9 (h : pRf e) {x : Nat} (hx : x < 16) : zaI (pv e t) (some (pL e 6 0 9)) 0 (nI x) = some (rI t 6 0 9 x) := by
  have hl : e.2.2.2 6 0 9 = 16 := h.len (by omega)
  exact ga_6_9 (h.is (by omega)) (by omega) (by omega)
theorem rs_9 (h : pRf e) {x : Nat} (hx : x < 16) (v : Int32) : zsI (pv e t) (some (pL e 6 0 9)) 0 (nI x) v = some (pv e (uI t 6 0 9 (upd (rI t 6 0 9) x v))) := by
  have hl : e.2.2.2 6 0 9 = 16 := h.len (by omega)
  exact sa_6_9 h.1 (h.is (by omega)) (by omega) (by omega) v
theorem rg_10 (h : pRf e) {x : Nat} (hx : x < 3200) : zaL (pv e t) (some (pL e 6 0 10)) 1 (nI x) = some (rJ t 6 0 10 x) := by
  have hl : e.2.2.2 6 0 10 = 3200 := h.len (by omega)
  exact ga_6_10 (h.is (by omega)) (by omega) (by omega)
theorem rs_10 (h : pRf e) {x : Nat} (hx : x < 3200) (v : Int64) : zsL (pv e t) (some (pL e 6 0 10)) 1 (nI x) v = some (pv e (uJ t 6 0 10 (vp_updL (rJ t 6 0 10) x v))) := by
  have hl : e.2.2.2 6 0 10 = 3200 := h.len (by omega)
  exact sa_6_10 h.1 (h.is (by omega)) (by omega) (by omega) v
theorem rg_11 (h : pRf e) {x : Nat} (hx : x < 16) : zaI (pv e t) (some (pL e 6 0 11)) 0 (nI x) = some (rI t 6 0 11 x) := by
  have hl : e.2.2.2 6 0 11 = 16 := h.len (by omega)
  exact ga_6_11 (h.is (by omega)) (by omega) (by omega)
theorem rs_11 (h : pRf e) {x : Nat} (hx : x < 16) (v : Int32) : zsI (pv e t) (some (pL e 6 0 11)) 0 (nI x) v = some (pv e (uI t 6 0 11 (upd (rI t 6 0 11) x v))) := by
  have hl : e.2.2.2 6 0 11 = 16 := h.len (by omega)
  exact sa_6_11 h.1 (h.is (by omega)) (by omega) (by omega) v
theorem rg_12 (h : pRf e) {x : Nat} (hx : x < 16) : zaI (pv e t) (some (pL e 6 0 12)) 2 (nI x) = some (rI t 6 0 12 x) := by
  have hl : e.2.2.2 6 0 12 = 16 := h.len (by omega)
  exact ga_6_12 (h.is (by omega)) (by omega) (by omega)
theorem rs_12 (h : pRf e) {x : Nat} {v : Int32} (hx : x < 16) (hv : v = 0 ∨ v = 1) : zsZ (pv e t) (some (pL e 6 0 12)) 2 (nI x) v = some (pv e (uI t 6 0 12 (upd (rI t 6 0 12) x v))) := by
  have hl : e.2.2.2 6 0 12 = 16 := h.len (by omega)
  exact sa_6_12 h.1 (h.is (by omega)) (by omega) (by omega) v hv
theorem rg_13 (h : pRf e) {x : Nat} (hx : x < 16) : zaI (pv e t) (some (pL e 6 0 13)) 0 (nI x) = some (rI t 6 0 13 x) := by
  have hl : e.2.2.2 6 0 13 = 16 := h.len (by omega)
  exact ga_6_13 (h.is (by omega)) (by omega) (by omega)
theorem rs_13 (h : pRf e) {x : Nat} (hx : x < 16) (v : Int32) : zsI (pv e t) (some (pL e 6 0 13)) 0 (nI x) v = some (pv e (uI t 6 0 13 (upd (rI t 6 0 13) x v))) := by
  have hl : e.2.2.2 6 0 13 = 16 := h.len (by omega)
  exact sa_6_13 h.1 (h.is (by omega)) (by omega) (by omega) v
theorem rg_14 (h : pRf e) {x : Nat} (hx : x < 16) : zaI (pv e t) (some (pL e 6 0 14)) 2 (nI x) = some (rI t 6 0 14 x) := by
  have hl : e.2.2.2 6 0 14 = 16 := h.len (by omega)
  exact ga_6_14 (h.is (by omega)) (by omega) (by omega)
theorem rs_14 (h : pRf e) {x : Nat} {v : Int32} (hx : x < 16) (hv : v = 0 ∨ v = 1) : zsZ (pv e t) (some (pL e 6 0 14)) 2 (nI x) v = some (pv e (uI t 6 0 14 (upd (rI t 6 0 14) x v))) := by
  have hl : e.2.2.2 6 0 14 = 16 := h.len (by omega)
  exact sa_6_14 h.1 (h.is (by omega)) (by omega) (by omega) v hv
theorem rg_15 (h : pRf e) {x : Nat} (hx : x < 16) : zaI (pv e t) (some (pL e 6 0 15)) 0 (nI x) = some (rI t 6 0 15 x) := by
  have hl : e.2.2.2 6 0 15 = 16 := h.len (by omega)
  exact ga_6_15 (h.is (by omega)) (by omega) (by omega)
theorem rs_15 (h : pRf e) {x : Nat} (hx : x < 16) (v : Int32) : zsI (pv e t) (some (pL e 6 0 15)) 0 (nI x) v = some (pv e (uI t 6 0 15 (upd (rI t 6 0 15) x v))) := by
  have hl : e.2.2.2 6 0 15 = 16 := h.len (by omega)
  exact sa_6_15 h.1 (h.is (by omega)) (by omega) (by omega) v
theorem rg_16 (h : pRf e) {x : Nat} (hx : x < 40) : zaI (pv e t) (some (pL e 6 0 16)) 0 (nI x) = some (rI t 6 0 16 x) := by
  have hl : e.2.2.2 6 0 16 = 40 := h.len (by omega)
  exact ga_6_16 (h.is (by omega)) (by omega) (by omega)
theorem rs_16 (h : pRf e) {x : Nat} (hx : x < 40) (v : Int32) : zsI (pv e t) (some (pL e 6 0 16)) 0 (nI x) v = some (pv e (uI t 6 0 16 (upd (rI t 6 0 16) x v))) := by
  have hl : e.2.2.2 6 0 16 = 40 := h.len (by omega)
  exact sa_6_16 h.1 (h.is (by omega)) (by omega) (by omega) v
theorem rg_17 (h : pRf e) {x : Nat} (hx : x < 640) : zaI (pv e t) (some (pL e 6 0 17)) 0 (nI x) = some (rI t 6 0 17 x) := by
  have hl : e.2.2.2 6 0 17 = 640 := h.len (by omega)
  exact ga_6_17 (h.is (by omega)) (by omega) (by omega)
theorem rs_17 (h : pRf e) {x : Nat} (hx : x < 640) (v : Int32) : zsI (pv e t) (some (pL e 6 0 17)) 0 (nI x) v = some (pv e (uI t 6 0 17 (upd (rI t 6 0 17) x v))) := by
  have hl : e.2.2.2 6 0 17 = 640 := h.len (by omega)
  exact sa_6_17 h.1 (h.is (by omega)) (by omega) (by omega) v
theorem rg_18 (h : pRf e) {x : Nat} (hx : x < 640) : zaI (pv e t) (some (pL e 6 0 18)) 2 (nI x) = some (rI t 6 0 18 x) := by
  have hl : e.2.2.2 6 0 18 = 640 := h.len (by omega)
  exact ga_6_18 (h.is (by omega)) (by omega) (by omega)
theorem rs_18 (h : pRf e) {x : Nat} {v : Int32} (hx : x < 640) (hv : v = 0 ∨ v = 1) : zsZ (pv e t) (some (pL e 6 0 18)) 2 (nI x) v = some (pv e (uI t 6 0 18 (upd (rI t 6 0 18) x v))) := by
  have hl : e.2.2.2 6 0 18 = 640 := h.len (by omega)
  exact sa_6_18 h.1 (h.is (by omega)) (by omega) (by omega) v hv
theorem rg_19 (h : pRf e) {x : Nat} (hx : x < 320) : zaI (pv e t) (some (pL e 6 0 19)) 2 (nI x) = some (rI t 6 0 19 x) := by
  have hl : e.2.2.2 6 0 19 = 320 := h.len (by omega)
  exact ga_6_19 (h.is (by omega)) (by omega) (by omega)
theorem rs_19 (h : pRf e) {x : Nat} {v : Int32} (hx : x < 320) (hv : v = 0 ∨ v = 1) : zsZ (pv e t) (some (pL e 6 0 19)) 2 (nI x) v = some (pv e (uI t 6 0 19 (upd (rI t 6 0 19) x v))) := by
  have hl : e.2.2.2 6 0 19 = 320 := h.len (by omega)
  exact sa_6_19 h.1 (h.is (by omega)) (by omega) (by omega) v hv
theorem rg_20 (h : pRf e) {x : Nat} (hx : x < 320) : zaI (pv e t) (some (pL e 6 0 20)) 2 (nI x) = some (rI t 6 0 20 x) := by
  have hl : e.2.2.2 6 0 20 = 320 := h.len (by omega)
  exact ga_6_20 (h.is (by omega)) (by omega) (by omega)
theorem rs_20 (h : pRf e) {x : Nat} {v : Int32} (hx : x < 320) (hv : v = 0 ∨ v = 1) : zsZ (pv e t) (some (pL e 6 0 20)) 2 (nI x) v = some (pv e (uI t 6 0 20 (upd (rI t 6 0 20) x v))) := by
  have hl : e.2.2.2 6 0 20 = 320 := h.len (by omega)
  exact sa_6_20 h.1 (h.is (by omega)) (by omega) (by omega) v hv
theorem rg_21 (h : pRf e) {x : Nat} (hx : x < 320) : zaL (pv e t) (some (pL e 6 0 21)) 1 (nI x) = some (rJ t 6 0 21 x) := by
  have hl : e.2.2.2 6 0 21 = 320 := h.len (by omega)
  exact ga_6_21 (h.is (by omega)) (by omega) (by omega)
theorem rs_21 (h : pRf e) {x : Nat} (hx : x < 320) (v : Int64) : zsL (pv e t) (some (pL e 6 0 21)) 1 (nI x) v = some (pv e (uJ t 6 0 21 (vp_updL (rJ t 6 0 21) x v))) := by
  have hl : e.2.2.2 6 0 21 = 320 := h.len (by omega)
  exact sa_6_21 h.1 (h.is (by omega)) (by omega) (by omega) v
theorem rg_22 (h : pRf e) {x : Nat} (hx : x < 320) : zaI (pv e t) (some (pL e 6 0 22)) 0 (nI x) = some (rI t 6 0 22 x) := by
  have hl : e.2.2.2 6 0 22 = 320 := h.len (by omega)
  exact ga_6_22 (h.is (by omega)) (by omega) (by omega)
theorem rs_22 (h : pRf e) {x : Nat} (hx : x < 320) (v : Int32) : zsI (pv e t) (some (pL e 6 0 22)) 0 (nI x) v = some (pv e (uI t 6 0 22 (upd (rI t 6 0 22) x v))) := by
  have hl : e.2.2.2 6 0 22 = 320 := h.len (by omega)
  exact sa_6_22 h.1 (h.is (by omega)) (by omega) (by omega) v
theorem rg_23 (h : pRf e) {x : Nat} (hx : x < 320) : zaI (pv e t) (some (pL e 6 0 23)) 2 (nI x) = some (rI t 6 0 23 x) := by
  have hl : e.2.2.2 6 0 23 = 320 := h.len (by omega)
  exact ga_6_23 (h.is (by omega)) (by omega) (by omega)
theorem rs_23 (h : pRf e) {x : Nat} {v : Int32} (hx : x < 320) (hv : v = 0 ∨ v = 1) : zsZ (pv e t) (some (pL e 6 0 23)) 2 (nI x) v = some (pv e (uI t 6 0 23 (upd (rI t 6 0 23) x v))) := by
  have hl : e.2.2.2 6 0 23 = 320 := h.len (by omega)
  exact sa_6_23 h.1 (h.is (by omega)) (by omega) (by omega) v hv
theorem rg_24 (h : pRf e) {x : Nat} (hx : x < 320) : zaI (pv e t) (some (pL e 6 0 24)) 2 (nI x) = some (rI t 6 0 24 x) := by
  have hl : e.2.2.2 6 0 24 = 320 := h.len (by omega)
  exact ga_6_24 (h.is (by omega)) (by omega) (by omega)
theorem rs_24 (h : pRf e) {x : Nat} {v : Int32} (hx : x < 320) (hv : v = 0 ∨ v = 1) : zsZ (pv e t) (some (pL e 6 0 24)) 2 (nI x) v = some (pv e (uI t 6 0 24 (upd (rI t 6 0 24) x v))) := by
  have hl : e.2.2.2 6 0 24 = 320 := h.len (by omega)
  exact sa_6_24 h.1 (h.is (by omega)) (by omega) (by omega) v hv
theorem rg_25 (h : pRf e) {x : Nat} (hx : x < 1024) : zaI (pv e t) (some (pL e 6 0 25)) 0 (nI x) = some (rI t 6 0 25 x) := by
  have hl : e.2.2.2 6 0 25 = 1024 := h.len (by omega)
  exact ga_6_25 (h.is (by omega)) (by omega) (by omega)
theorem rs_25 (h : pRf e) {x : Nat} (hx : x < 1024) (v : Int32) : zsI (pv e t) (some (pL e 6 0 25)) 0 (nI x) v = some (pv e (uI t 6 0 25 (upd (rI t 6 0 25) x v))) := by
  have hl : e.2.2.2 6 0 25 = 1024 := h.len (by omega)
  exact sa_6_25 h.1 (h.is (by omega)) (by omega) (by omega) v
theorem rg_26 (h : pRf e) {x : Nat} (hx : x < 1024) : zaI (pv e t) (some (pL e 6 0 26)) 0 (nI x) = some (rI t 6 0 26 x) := by
  have hl : e.2.2.2 6 0 26 = 1024 := h.len (by omega)
  exact ga_6_26 (h.is (by omega)) (by omega) (by omega)
theorem rs_26 (h : pRf e) {x : Nat} (hx : x < 1024) (v : Int32) : zsI (pv e t) (some (pL e 6 0 26)) 0 (nI x) v = some (pv e (uI t 6 0 26 (upd (rI t 6 0 26) x v))) := by
  have hl : e.2.2.2 6 0 26 = 1024 := h.len (by omega)
  exact sa_6_26 h.1 (h.is (by omega)) (by omega) (by omega) v
theorem rg_27 (h : pRf e) {x : Nat} (hx : x < 8) : zaL (pv e t) (some (pL e 6 0 27)) 1 (nI x) = some (rJ t 6 0 27 x) := by
  have hl : e.2.2.2 6 0 27 = 8 := h.len (by omega)
  exact ga_6_27 (h.is (by omega)) (by omega) (by omega)
theorem rs_27 (h : pRf e) {x : Nat} (hx : x < 8) (v : Int64) : zsL (pv e t) (some (pL e 6 0 27)) 1 (nI x) v = some (pv e (uJ t 6 0 27 (vp_updL (rJ t 6 0 27) x v))) := by
  have hl : e.2.2.2 6 0 27 = 8 := h.len (by omega)
  exact sa_6_27 h.1 (h.is (by omega)) (by omega) (by omega) v
theorem rg_28 (h : pRf e) {x : Nat} (hx : x < 8) : zaL (pv e t) (some (pL e 6 0 28)) 1 (nI x) = some (rJ t 6 0 28 x) := by
  have hl : e.2.2.2 6 0 28 = 8 := h.len (by omega)
  exact ga_6_28 (h.is (by omega)) (by omega) (by omega)
theorem rs_28 (h : pRf e) {x : Nat} (hx : x < 8) (v : Int64) : zsL (pv e t) (some (pL e 6 0 28)) 1 (nI x) v = some (pv e (uJ t 6 0 28 (vp_updL (rJ t 6 0 28) x v))) := by
  have hl : e.2.2.2 6 0 28 = 8 := h.len (by omega)
  exact sa_6_28 h.1 (h.is (by omega)) (by omega) (by omega) v
end PM
def Mod (t : pS) (s : zSt) : Prop := qI t 6 0 0 = nI (s_N s) ∧ qI t 6 0 2 = b2i (s_tol s) ∧ qI t 6 0 7 = nI (s_C s) ∧ qI t 6 0 19 = nI (s_M s) ∧ qI t 6 0 29 = nI (s_acks s).length ∧ hI (rJ t 6 0 1) 8 (fun x => s_sum s x) ∧ hI (rI t 6 0 2) 8 (fun x => s_rows s x) ∧ hI (rI t 6 0 3) 8 (fun x => b2i (s_ended s x)) ∧ hI (rI t 6 0 4) 8 (fun x => o2i (s_latest s x)) ∧ hI (rI t 6 0 5) (s_C s) (fun x => o2i (s_fr s x)) ∧ hI (rI t 6 0 6) (s_C s) (fun x => nI (s_to s x)) ∧ (∀ c, c < 16 → hL (rI t 6 0 7) (16 * c) (s_q s c) (fun z => nI z.1)) ∧ (∀ c, c < 16 → hL (rJ t 6 0 8) (16 * c) (s_q s c) (fun z => z.2)) ∧ hI (rI t 6 0 9) 16 (fun x => nI (s_q s x).length) ∧ (∀ c, c < 16 → hL (rJ t 6 0 10) (200 * c) (s_log s c) (fun z => z)) ∧ hI (rI t 6 0 11) 16 (fun x => nI (s_log s x).length) ∧ hI (rI t 6 0 12) 16 (fun x => b2i (s_fin s x)) ∧ hI (rI t 6 0 13) 16 (fun x => nI (s_stand s x)) ∧ hI (rI t 6 0 14) 16 (fun x => b2i (s_over s x)) ∧ hI (rI t 6 0 15) 16 (fun x => o2i (s_held s x)) ∧ hI (rI t 6 0 16) 40 (fun x => nI (s_cond s x)) ∧ h2 (rI t 6 0 17) 16 40 16 (fun m x => nI (s_pos s m x)) ∧ h2 (rI t 6 0 18) 16 40 16 (fun m x => b2i (s_came s m x)) ∧ h2 (rI t 6 0 19) 8 40 8 (fun m x => b2i (s_kept s m x)) ∧ h2 (rI t 6 0 20) 8 40 8 (fun m x => b2i (s_kEnd s m x)) ∧ h2 (rJ t 6 0 21) 8 40 8 (fun m x => s_kSum s m x) ∧ h2 (rI t 6 0 22) 8 40 8 (fun m x => s_kRows s m x) ∧ h2 (rI t 6 0 23) 8 40 8 (fun m x => b2i (s_fails s m x)) ∧ h2 (rI t 6 0 24) 8 40 8 (fun m x => b2i (s_taken s m x)) ∧ hL (rI t 6 0 25) 0 (s_acks s) (fun z => nI z.1) ∧ hL (rI t 6 0 26) 0 (s_acks s) (fun z => nI z.2)
section PM
variable {e : pE} {t : pS} {s : zSt} {n : Nat}
theorem Mod.c_f0 (M : Mod t s) : qI t 6 0 0 = nI (s_N s) := M.1
theorem Mod.c_f2 (M : Mod t s) : qI t 6 0 2 = b2i (s_tol s) := M.2.1
theorem Mod.c_f7 (M : Mod t s) : qI t 6 0 7 = nI (s_C s) := M.2.2.1
theorem Mod.c_f19 (M : Mod t s) : qI t 6 0 19 = nI (s_M s) := M.2.2.2.1
theorem Mod.c_f29 (M : Mod t s) : qI t 6 0 29 = nI (s_acks s).length := M.2.2.2.2.1
theorem Mod.c_r1 (M : Mod t s) : hI (rJ t 6 0 1) 8 (fun x => s_sum s x) := M.2.2.2.2.2.1
theorem Mod.r1 (M : Mod t s) {x : Nat} (hx : x < 8) : rJ t 6 0 1 x = s_sum s x := M.2.2.2.2.2.1 x hx
theorem Mod.c_r2 (M : Mod t s) : hI (rI t 6 0 2) 8 (fun x => s_rows s x) := M.2.2.2.2.2.2.1
theorem Mod.r2 (M : Mod t s) {x : Nat} (hx : x < 8) : rI t 6 0 2 x = s_rows s x := M.2.2.2.2.2.2.1 x hx
theorem Mod.c_r3 (M : Mod t s) : hI (rI t 6 0 3) 8 (fun x => b2i (s_ended s x)) := M.2.2.2.2.2.2.2.1
theorem Mod.r3 (M : Mod t s) {x : Nat} (hx : x < 8) : rI t 6 0 3 x = b2i (s_ended s x) := M.2.2.2.2.2.2.2.1 x hx
theorem Mod.c_r4 (M : Mod t s) : hI (rI t 6 0 4) 8 (fun x => o2i (s_latest s x)) := M.2.2.2.2.2.2.2.2.1
theorem Mod.r4 (M : Mod t s) {x : Nat} (hx : x < 8) : rI t 6 0 4 x = o2i (s_latest s x) := M.2.2.2.2.2.2.2.2.1 x hx
theorem Mod.c_r5 (M : Mod t s) : hI (rI t 6 0 5) (s_C s) (fun x => o2i (s_fr s x)) := M.2.2.2.2.2.2.2.2.2.1
theorem Mod.r5 (M : Mod t s) {x : Nat} (hx : x < (s_C s)) : rI t 6 0 5 x = o2i (s_fr s x) := M.2.2.2.2.2.2.2.2.2.1 x hx
theorem Mod.c_r6 (M : Mod t s) : hI (rI t 6 0 6) (s_C s) (fun x => nI (s_to s x)) := M.2.2.2.2.2.2.2.2.2.2.1
theorem Mod.r6 (M : Mod t s) {x : Nat} (hx : x < (s_C s)) : rI t 6 0 6 x = nI (s_to s x) := M.2.2.2.2.2.2.2.2.2.2.1 x hx
theorem Mod.c_q7 (M : Mod t s) : ∀ c, c < 16 → hL (rI t 6 0 7) (16 * c) (s_q s c) (fun z => nI z.1) := M.2.2.2.2.2.2.2.2.2.2.2.1
theorem Mod.c_q8 (M : Mod t s) : ∀ c, c < 16 → hL (rJ t 6 0 8) (16 * c) (s_q s c) (fun z => z.2) := M.2.2.2.2.2.2.2.2.2.2.2.2.1
theorem Mod.c_r9 (M : Mod t s) : hI (rI t 6 0 9) 16 (fun x => nI (s_q s x).length) := M.2.2.2.2.2.2.2.2.2.2.2.2.2.1
theorem Mod.r9 (M : Mod t s) {x : Nat} (hx : x < 16) : rI t 6 0 9 x = nI (s_q s x).length := M.2.2.2.2.2.2.2.2.2.2.2.2.2.1 x hx
theorem Mod.c_q10 (M : Mod t s) : ∀ c, c < 16 → hL (rJ t 6 0 10) (200 * c) (s_log s c) (fun z => z) := M.2.2.2.2.2.2.2.2.2.2.2.2.2.2.1
theorem Mod.c_r11 (M : Mod t s) : hI (rI t 6 0 11) 16 (fun x => nI (s_log s x).length) := M.2.2.2.2.2.2.2.2.2.2.2.2.2.2.2.1
theorem Mod.r11 (M : Mod t s) {x : Nat} (hx : x < 16) : rI t 6 0 11 x = nI (s_log s x).length := M.2.2.2.2.2.2.2.2.2.2.2.2.2.2.2.1 x hx
theorem Mod.c_r12 (M : Mod t s) : hI (rI t 6 0 12) 16 (fun x => b2i (s_fin s x)) := M.2.2.2.2.2.2.2.2.2.2.2.2.2.2.2.2.1
theorem Mod.r12 (M : Mod t s) {x : Nat} (hx : x < 16) : rI t 6 0 12 x = b2i (s_fin s x) := M.2.2.2.2.2.2.2.2.2.2.2.2.2.2.2.2.1 x hx
theorem Mod.c_r13 (M : Mod t s) : hI (rI t 6 0 13) 16 (fun x => nI (s_stand s x)) := M.2.2.2.2.2.2.2.2.2.2.2.2.2.2.2.2.2.1
theorem Mod.r13 (M : Mod t s) {x : Nat} (hx : x < 16) : rI t 6 0 13 x = nI (s_stand s x) := M.2.2.2.2.2.2.2.2.2.2.2.2.2.2.2.2.2.1 x hx
theorem Mod.c_r14 (M : Mod t s) : hI (rI t 6 0 14) 16 (fun x => b2i (s_over s x)) := M.2.2.2.2.2.2.2.2.2.2.2.2.2.2.2.2.2.2.1
theorem Mod.r14 (M : Mod t s) {x : Nat} (hx : x < 16) : rI t 6 0 14 x = b2i (s_over s x) := M.2.2.2.2.2.2.2.2.2.2.2.2.2.2.2.2.2.2.1 x hx
theorem Mod.c_r15 (M : Mod t s) : hI (rI t 6 0 15) 16 (fun x => o2i (s_held s x)) := M.2.2.2.2.2.2.2.2.2.2.2.2.2.2.2.2.2.2.2.1
theorem Mod.r15 (M : Mod t s) {x : Nat} (hx : x < 16) : rI t 6 0 15 x = o2i (s_held s x) := M.2.2.2.2.2.2.2.2.2.2.2.2.2.2.2.2.2.2.2.1 x hx
theorem Mod.c_r16 (M : Mod t s) : hI (rI t 6 0 16) 40 (fun x => nI (s_cond s x)) := M.2.2.2.2.2.2.2.2.2.2.2.2.2.2.2.2.2.2.2.2.1
theorem Mod.r16 (M : Mod t s) {x : Nat} (hx : x < 40) : rI t 6 0 16 x = nI (s_cond s x) := M.2.2.2.2.2.2.2.2.2.2.2.2.2.2.2.2.2.2.2.2.1 x hx
theorem Mod.c_r17 (M : Mod t s) : h2 (rI t 6 0 17) 16 40 16 (fun m x => nI (s_pos s m x)) := M.2.2.2.2.2.2.2.2.2.2.2.2.2.2.2.2.2.2.2.2.2.1
theorem Mod.r17 (M : Mod t s) {m x : Nat} (hm : m < 40) (hx : x < 16) : rI t 6 0 17 (16 * m + x) = nI (s_pos s m x) := M.2.2.2.2.2.2.2.2.2.2.2.2.2.2.2.2.2.2.2.2.2.1 m x hm hx
theorem Mod.c_r18 (M : Mod t s) : h2 (rI t 6 0 18) 16 40 16 (fun m x => b2i (s_came s m x)) := M.2.2.2.2.2.2.2.2.2.2.2.2.2.2.2.2.2.2.2.2.2.2.1
theorem Mod.r18 (M : Mod t s) {m x : Nat} (hm : m < 40) (hx : x < 16) : rI t 6 0 18 (16 * m + x) = b2i (s_came s m x) := M.2.2.2.2.2.2.2.2.2.2.2.2.2.2.2.2.2.2.2.2.2.2.1 m x hm hx
theorem Mod.c_r19 (M : Mod t s) : h2 (rI t 6 0 19) 8 40 8 (fun m x => b2i (s_kept s m x)) := M.2.2.2.2.2.2.2.2.2.2.2.2.2.2.2.2.2.2.2.2.2.2.2.1
theorem Mod.r19 (M : Mod t s) {m x : Nat} (hm : m < 40) (hx : x < 8) : rI t 6 0 19 (8 * m + x) = b2i (s_kept s m x) := M.2.2.2.2.2.2.2.2.2.2.2.2.2.2.2.2.2.2.2.2.2.2.2.1 m x hm hx
theorem Mod.c_r20 (M : Mod t s) : h2 (rI t 6 0 20) 8 40 8 (fun m x => b2i (s_kEnd s m x)) := M.2.2.2.2.2.2.2.2.2.2.2.2.2.2.2.2.2.2.2.2.2.2.2.2.1
theorem Mod.r20 (M : Mod t s) {m x : Nat} (hm : m < 40) (hx : x < 8) : rI t 6 0 20 (8 * m + x) = b2i (s_kEnd s m x) := M.2.2.2.2.2.2.2.2.2.2.2.2.2.2.2.2.2.2.2.2.2.2.2.2.1 m x hm hx
theorem Mod.c_r21 (M : Mod t s) : h2 (rJ t 6 0 21) 8 40 8 (fun m x => s_kSum s m x) := M.2.2.2.2.2.2.2.2.2.2.2.2.2.2.2.2.2.2.2.2.2.2.2.2.2.1
theorem Mod.r21 (M : Mod t s) {m x : Nat} (hm : m < 40) (hx : x < 8) : rJ t 6 0 21 (8 * m + x) = s_kSum s m x := M.2.2.2.2.2.2.2.2.2.2.2.2.2.2.2.2.2.2.2.2.2.2.2.2.2.1 m x hm hx
theorem Mod.c_r22 (M : Mod t s) : h2 (rI t 6 0 22) 8 40 8 (fun m x => s_kRows s m x) := M.2.2.2.2.2.2.2.2.2.2.2.2.2.2.2.2.2.2.2.2.2.2.2.2.2.2.1
theorem Mod.r22 (M : Mod t s) {m x : Nat} (hm : m < 40) (hx : x < 8) : rI t 6 0 22 (8 * m + x) = s_kRows s m x := M.2.2.2.2.2.2.2.2.2.2.2.2.2.2.2.2.2.2.2.2.2.2.2.2.2.2.1 m x hm hx
theorem Mod.c_r23 (M : Mod t s) : h2 (rI t 6 0 23) 8 40 8 (fun m x => b2i (s_fails s m x)) := M.2.2.2.2.2.2.2.2.2.2.2.2.2.2.2.2.2.2.2.2.2.2.2.2.2.2.2.1
theorem Mod.r23 (M : Mod t s) {m x : Nat} (hm : m < 40) (hx : x < 8) : rI t 6 0 23 (8 * m + x) = b2i (s_fails s m x) := M.2.2.2.2.2.2.2.2.2.2.2.2.2.2.2.2.2.2.2.2.2.2.2.2.2.2.2.1 m x hm hx
theorem Mod.c_r24 (M : Mod t s) : h2 (rI t 6 0 24) 8 40 8 (fun m x => b2i (s_taken s m x)) := M.2.2.2.2.2.2.2.2.2.2.2.2.2.2.2.2.2.2.2.2.2.2.2.2.2.2.2.2.1
theorem Mod.r24 (M : Mod t s) {m x : Nat} (hm : m < 40) (hx : x < 8) : rI t 6 0 24 (8 * m + x) = b2i (s_taken s m x) := M.2.2.2.2.2.2.2.2.2.2.2.2.2.2.2.2.2.2.2.2.2.2.2.2.2.2.2.2.1 m x hm hx
theorem Mod.c_q25 (M : Mod t s) : hL (rI t 6 0 25) 0 (s_acks s) (fun z => nI z.1) := M.2.2.2.2.2.2.2.2.2.2.2.2.2.2.2.2.2.2.2.2.2.2.2.2.2.2.2.2.2.1
theorem Mod.c_q26 (M : Mod t s) : hL (rI t 6 0 26) 0 (s_acks s) (fun z => nI z.2) := M.2.2.2.2.2.2.2.2.2.2.2.2.2.2.2.2.2.2.2.2.2.2.2.2.2.2.2.2.2.2
theorem Mod.r7 (M : Mod t s) {c i : Nat} {z : Nat × Int64} (hc : c < 16) (h : (s_q s c)[i]? = some z) : rI t 6 0 7 (16 * c + i) = nI z.1 := M.c_q7 c hc i z h
theorem Mod.r8 (M : Mod t s) {c i : Nat} {z : Nat × Int64} (hc : c < 16) (h : (s_q s c)[i]? = some z) : rJ t 6 0 8 (16 * c + i) = z.2 := M.c_q8 c hc i z h
theorem Mod.r10 (M : Mod t s) {c i : Nat} {z : Int64} (hc : c < 16) (h : (s_log s c)[i]? = some z) : rJ t 6 0 10 (200 * c + i) = z := M.c_q10 c hc i z h
theorem Mod.r25 (M : Mod t s) {i : Nat} {z : Nat × Nat} (h : (s_acks s)[i]? = some z) : rI t 6 0 25 i = nI z.1 := by
  have := M.c_q25 i z h
  rwa [Nat.zero_add] at this
theorem Mod.r26 (M : Mod t s) {i : Nat} {z : Nat × Nat} (h : (s_acks s)[i]? = some z) : rI t 6 0 26 i = nI z.2 := by
  have := M.c_q26 i z h
  rwa [Nat.zero_add] at this
theorem Mod.fr (M : Mod t s) {t' : pS} (h : same t t' 6 0) : Mod t' s := by
  obtain ⟨h1, h2, h3, h4, h5⟩ := h
  unfold Mod
  rw [h1, h3, h4]
  exact M
end PM
section PM
variable {t : pS} {s : zSt}
theorem Mod.v_sum (M : Mod t s) {v : Nat → Int64} {g : Nat → Int64} (H : hI v 8 (fun x => g x)) : Mod (uJ t 6 0 1 v) (u_sum s g) := by
  unfold Mod
  simp only [rI_uI, rI_uJ, rI_uR, rI_wI, rI_wJ, rJ_uJ, rJ_uI, rJ_uR, rJ_wI, rJ_wJ, qI_wI, qI_wJ, qI_uI, qI_uJ, qI_uR, y_N_sum, y_C_sum, y_fr_sum, y_to_sum, y_tol_sum, y_rows_sum, y_ended_sum, y_latest_sum, y_q_sum, y_log_sum, y_fin_sum, y_stand_sum, y_over_sum, y_held_sum, y_M_sum, y_cond_sum, y_pos_sum, y_came_sum, y_kept_sum, y_kEnd_sum, y_kSum_sum, y_kRows_sum, y_fails_sum, y_taken_sum, y_acks_sum, su_sum, and_true, true_and, and_false, false_and, and_self, ↓reduceIte, Nat.reduceEqDiff]
  exact ⟨M.c_f0, M.c_f2, M.c_f7, M.c_f19, M.c_f29, H, M.c_r2, M.c_r3, M.c_r4, M.c_r5, M.c_r6, M.c_q7, M.c_q8, M.c_r9, M.c_q10, M.c_r11, M.c_r12, M.c_r13, M.c_r14, M.c_r15, M.c_r16, M.c_r17, M.c_r18, M.c_r19, M.c_r20, M.c_r21, M.c_r22, M.c_r23, M.c_r24, M.c_q25, M.c_q26⟩
theorem Mod.v_rows (M : Mod t s) {v : Nat → Int32} {g : Nat → Int32} (H : hI v 8 (fun x => g x)) : Mod (uI t 6 0 2 v) (u_rows s g) := by
  unfold Mod
  simp only [rI_uI, rI_uJ, rI_uR, rI_wI, rI_wJ, rJ_uJ, rJ_uI, rJ_uR, rJ_wI, rJ_wJ, qI_wI, qI_wJ, qI_uI, qI_uJ, qI_uR, y_N_rows, y_C_rows, y_fr_rows, y_to_rows, y_tol_rows, y_sum_rows, y_ended_rows, y_latest_rows, y_q_rows, y_log_rows, y_fin_rows, y_stand_rows, y_over_rows, y_held_rows, y_M_rows, y_cond_rows, y_pos_rows, y_came_rows, y_kept_rows, y_kEnd_rows, y_kSum_rows, y_kRows_rows, y_fails_rows, y_taken_rows, y_acks_rows, su_rows, and_true, true_and, and_false, false_and, and_self, ↓reduceIte, Nat.reduceEqDiff]
  exact ⟨M.c_f0, M.c_f2, M.c_f7, M.c_f19, M.c_f29, M.c_r1, H, M.c_r3, M.c_r4, M.c_r5, M.c_r6, M.c_q7, M.c_q8, M.c_r9, M.c_q10, M.c_r11, M.c_r12, M.c_r13, M.c_r14, M.c_r15, M.c_r16, M.c_r17, M.c_r18, M.c_r19, M.c_r20, M.c_r21, M.c_r22, M.c_r23, M.c_r24, M.c_q25, M.c_q26⟩
theorem Mod.v_ended (M : Mod t s) {v : Nat → Int32} {g : Nat → Bool} (H : hI v 8 (fun x => b2i (g x))) : Mod (uI t 6 0 3 v) (u_ended s g) := by
  unfold Mod
  simp only [rI_uI, rI_uJ, rI_uR, rI_wI, rI_wJ, rJ_uJ, rJ_uI, rJ_uR, rJ_wI, rJ_wJ, qI_wI, qI_wJ, qI_uI, qI_uJ, qI_uR, y_N_ended, y_C_ended, y_fr_ended, y_to_ended, y_tol_ended, y_sum_ended, y_rows_ended, y_latest_ended, y_q_ended, y_log_ended, y_fin_ended, y_stand_ended, y_over_ended, y_held_ended, y_M_ended, y_cond_ended, y_pos_ended, y_came_ended, y_kept_ended, y_kEnd_ended, y_kSum_ended, y_kRows_ended, y_fails_ended, y_taken_ended, y_acks_ended, su_ended, and_true, true_and, and_false, false_and, and_self, ↓reduceIte, Nat.reduceEqDiff]
  exact ⟨M.c_f0, M.c_f2, M.c_f7, M.c_f19, M.c_f29, M.c_r1, M.c_r2, H, M.c_r4, M.c_r5, M.c_r6, M.c_q7, M.c_q8, M.c_r9, M.c_q10, M.c_r11, M.c_r12, M.c_r13, M.c_r14, M.c_r15, M.c_r16, M.c_r17, M.c_r18, M.c_r19, M.c_r20, M.c_r21, M.c_r22, M.c_r23, M.c_r24, M.c_q25, M.c_q26⟩
theorem Mod.v_latest (M : Mod t s) {v : Nat → Int32} {g : Nat → Option Nat} (H : hI v 8 (fun x => o2i (g x))) : Mod (uI t 6 0 4 v) (u_latest s g) := by
  unfold Mod
  simp only [rI_uI, rI_uJ, rI_uR, rI_wI, rI_wJ, rJ_uJ, rJ_uI, rJ_uR, rJ_wI, rJ_wJ, qI_wI, qI_wJ, qI_uI, qI_uJ, qI_uR, y_N_latest, y_C_latest, y_fr_latest, y_to_latest, y_tol_latest, y_sum_latest, y_rows_latest, y_ended_latest, y_q_latest, y_log_latest, y_fin_latest, y_stand_latest, y_over_latest, y_held_latest, y_M_latest, y_cond_latest, y_pos_latest, y_came_latest, y_kept_latest, y_kEnd_latest, y_kSum_latest, y_kRows_latest, y_fails_latest, y_taken_latest, y_acks_latest, su_latest, and_true, true_and, and_false, false_and, and_self, ↓reduceIte, Nat.reduceEqDiff]
  exact ⟨M.c_f0, M.c_f2, M.c_f7, M.c_f19, M.c_f29, M.c_r1, M.c_r2, M.c_r3, H, M.c_r5, M.c_r6, M.c_q7, M.c_q8, M.c_r9, M.c_q10, M.c_r11, M.c_r12, M.c_r13, M.c_r14, M.c_r15, M.c_r16, M.c_r17, M.c_r18, M.c_r19, M.c_r20, M.c_r21, M.c_r22, M.c_r23, M.c_r24, M.c_q25, M.c_q26⟩
theorem Mod.v_fin (M : Mod t s) {v : Nat → Int32} {g : Nat → Bool} (H : hI v 16 (fun x => b2i (g x))) : Mod (uI t 6 0 12 v) (u_fin s g) := by
  unfold Mod
  simp only [rI_uI, rI_uJ, rI_uR, rI_wI, rI_wJ, rJ_uJ, rJ_uI, rJ_uR, rJ_wI, rJ_wJ, qI_wI, qI_wJ, qI_uI, qI_uJ, qI_uR, y_N_fin, y_C_fin, y_fr_fin, y_to_fin, y_tol_fin, y_sum_fin, y_rows_fin, y_ended_fin, y_latest_fin, y_q_fin, y_log_fin, y_stand_fin, y_over_fin, y_held_fin, y_M_fin, y_cond_fin, y_pos_fin, y_came_fin, y_kept_fin, y_kEnd_fin, y_kSum_fin, y_kRows_fin, y_fails_fin, y_taken_fin, y_acks_fin, su_fin, and_true, true_and, and_false, false_and, and_self, ↓reduceIte, Nat.reduceEqDiff]
  exact ⟨M.c_f0, M.c_f2, M.c_f7, M.c_f19, M.c_f29, M.c_r1, M.c_r2, M.c_r3, M.c_r4, M.c_r5, M.c_r6, M.c_q7, M.c_q8, M.c_r9, M.c_q10, M.c_r11, H, M.c_r13, M.c_r14, M.c_r15, M.c_r16, M.c_r17, M.c_r18, M.c_r19, M.c_r20, M.c_r21, M.c_r22, M.c_r23, M.c_r24, M.c_q25, M.c_q26⟩
theorem Mod.v_stand (M : Mod t s) {v : Nat → Int32} {g : Nat → Nat} (H : hI v 16 (fun x => nI (g x))) : Mod (uI t 6 0 13 v) (u_stand s g) := by
  unfold Mod
  simp only [rI_uI, rI_uJ, rI_uR, rI_wI, rI_wJ, rJ_uJ, rJ_uI, rJ_uR, rJ_wI, rJ_wJ, qI_wI, qI_wJ, qI_uI, qI_uJ, qI_uR, y_N_stand, y_C_stand, y_fr_stand, y_to_stand, y_tol_stand, y_sum_stand, y_rows_stand, y_ended_stand, y_latest_stand, y_q_stand, y_log_stand, y_fin_stand, y_over_stand, y_held_stand, y_M_stand, y_cond_stand, y_pos_stand, y_came_stand, y_kept_stand, y_kEnd_stand, y_kSum_stand, y_kRows_stand, y_fails_stand, y_taken_stand, y_acks_stand, su_stand, and_true, true_and, and_false, false_and, and_self, ↓reduceIte, Nat.reduceEqDiff]
  exact ⟨M.c_f0, M.c_f2, M.c_f7, M.c_f19, M.c_f29, M.c_r1, M.c_r2, M.c_r3, M.c_r4, M.c_r5, M.c_r6, M.c_q7, M.c_q8, M.c_r9, M.c_q10, M.c_r11, M.c_r12, H, M.c_r14, M.c_r15, M.c_r16, M.c_r17, M.c_r18, M.c_r19, M.c_r20, M.c_r21, M.c_r22, M.c_r23, M.c_r24, M.c_q25, M.c_q26⟩
theorem Mod.v_over (M : Mod t s) {v : Nat → Int32} {g : Nat → Bool} (H : hI v 16 (fun x => b2i (g x))) : Mod (uI t 6 0 14 v) (u_over s g) := by
  unfold Mod
  simp only [rI_uI, rI_uJ, rI_uR, rI_wI, rI_wJ, rJ_uJ, rJ_uI, rJ_uR, rJ_wI, rJ_wJ, qI_wI, qI_wJ, qI_uI, qI_uJ, qI_uR, y_N_over, y_C_over, y_fr_over, y_to_over, y_tol_over, y_sum_over, y_rows_over, y_ended_over, y_latest_over, y_q_over, y_log_over, y_fin_over, y_stand_over, y_held_over, y_M_over, y_cond_over, y_pos_over, y_came_over, y_kept_over, y_kEnd_over, y_kSum_over, y_kRows_over, y_fails_over, y_taken_over, y_acks_over, su_over, and_true, true_and, and_false, false_and, and_self, ↓reduceIte, Nat.reduceEqDiff]
  exact ⟨M.c_f0, M.c_f2, M.c_f7, M.c_f19, M.c_f29, M.c_r1, M.c_r2, M.c_r3, M.c_r4, M.c_r5, M.c_r6, M.c_q7, M.c_q8, M.c_r9, M.c_q10, M.c_r11, M.c_r12, M.c_r13, H, M.c_r15, M.c_r16, M.c_r17, M.c_r18, M.c_r19, M.c_r20, M.c_r21, M.c_r22, M.c_r23, M.c_r24, M.c_q25, M.c_q26⟩
theorem Mod.v_held (M : Mod t s) {v : Nat → Int32} {g : Nat → Option Nat} (H : hI v 16 (fun x => o2i (g x))) : Mod (uI t 6 0 15 v) (u_held s g) := by
  unfold Mod
  simp only [rI_uI, rI_uJ, rI_uR, rI_wI, rI_wJ, rJ_uJ, rJ_uI, rJ_uR, rJ_wI, rJ_wJ, qI_wI, qI_wJ, qI_uI, qI_uJ, qI_uR, y_N_held, y_C_held, y_fr_held, y_to_held, y_tol_held, y_sum_held, y_rows_held, y_ended_held, y_latest_held, y_q_held, y_log_held, y_fin_held, y_stand_held, y_over_held, y_M_held, y_cond_held, y_pos_held, y_came_held, y_kept_held, y_kEnd_held, y_kSum_held, y_kRows_held, y_fails_held, y_taken_held, y_acks_held, su_held, and_true, true_and, and_false, false_and, and_self, ↓reduceIte, Nat.reduceEqDiff]
  exact ⟨M.c_f0, M.c_f2, M.c_f7, M.c_f19, M.c_f29, M.c_r1, M.c_r2, M.c_r3, M.c_r4, M.c_r5, M.c_r6, M.c_q7, M.c_q8, M.c_r9, M.c_q10, M.c_r11, M.c_r12, M.c_r13, M.c_r14, H, M.c_r16, M.c_r17, M.c_r18, M.c_r19, M.c_r20, M.c_r21, M.c_r22, M.c_r23, M.c_r24, M.c_q25, M.c_q26⟩
theorem Mod.v_cond (M : Mod t s) {v : Nat → Int32} {g : Nat → Nat} (H : hI v 40 (fun x => nI (g x))) : Mod (uI t 6 0 16 v) (u_cond s g) := by
  unfold Mod
  simp only [rI_uI, rI_uJ, rI_uR, rI_wI, rI_wJ, rJ_uJ, rJ_uI, rJ_uR, rJ_wI, rJ_wJ, qI_wI, qI_wJ, qI_uI, qI_uJ, qI_uR, y_N_cond, y_C_cond, y_fr_cond, y_to_cond, y_tol_cond, y_sum_cond, y_rows_cond, y_ended_cond, y_latest_cond, y_q_cond, y_log_cond, y_fin_cond, y_stand_cond, y_over_cond, y_held_cond, y_M_cond, y_pos_cond, y_came_cond, y_kept_cond, y_kEnd_cond, y_kSum_cond, y_kRows_cond, y_fails_cond, y_taken_cond, y_acks_cond, su_cond, and_true, true_and, and_false, false_and, and_self, ↓reduceIte, Nat.reduceEqDiff]
  exact ⟨M.c_f0, M.c_f2, M.c_f7, M.c_f19, M.c_f29, M.c_r1, M.c_r2, M.c_r3, M.c_r4, M.c_r5, M.c_r6, M.c_q7, M.c_q8, M.c_r9, M.c_q10, M.c_r11, M.c_r12, M.c_r13, M.c_r14, M.c_r15, H, M.c_r17, M.c_r18, M.c_r19, M.c_r20, M.c_r21, M.c_r22, M.c_r23, M.c_r24, M.c_q25, M.c_q26⟩
theorem Mod.v_pos (M : Mod t s) {v : Nat → Int32} {g : Nat → Nat → Nat} (H : h2 v 16 40 16 (fun m x => nI (g m x))) : Mod (uI t 6 0 17 v) (u_pos s g) := by
  unfold Mod
  simp only [rI_uI, rI_uJ, rI_uR, rI_wI, rI_wJ, rJ_uJ, rJ_uI, rJ_uR, rJ_wI, rJ_wJ, qI_wI, qI_wJ, qI_uI, qI_uJ, qI_uR, y_N_pos, y_C_pos, y_fr_pos, y_to_pos, y_tol_pos, y_sum_pos, y_rows_pos, y_ended_pos, y_latest_pos, y_q_pos, y_log_pos, y_fin_pos, y_stand_pos, y_over_pos, y_held_pos, y_M_pos, y_cond_pos, y_came_pos, y_kept_pos, y_kEnd_pos, y_kSum_pos, y_kRows_pos, y_fails_pos, y_taken_pos, y_acks_pos, su_pos, and_true, true_and, and_false, false_and, and_self, ↓reduceIte, Nat.reduceEqDiff]
  exact ⟨M.c_f0, M.c_f2, M.c_f7, M.c_f19, M.c_f29, M.c_r1, M.c_r2, M.c_r3, M.c_r4, M.c_r5, M.c_r6, M.c_q7, M.c_q8, M.c_r9, M.c_q10, M.c_r11, M.c_r12, M.c_r13, M.c_r14, M.c_r15, M.c_r16, H, M.c_r18, M.c_r19, M.c_r20, M.c_r21, M.c_r22, M.c_r23, M.c_r24, M.c_q25, M.c_q26⟩
theorem Mod.v_came (M : Mod t s) {v : Nat → Int32} {g : Nat → Nat → Bool} (H : h2 v 16 40 16 (fun m x => b2i (g m x))) : Mod (uI t 6 0 18 v) (u_came s g) := by
  unfold Mod
  simp only [rI_uI, rI_uJ, rI_uR, rI_wI, rI_wJ, rJ_uJ, rJ_uI, rJ_uR, rJ_wI, rJ_wJ, qI_wI, qI_wJ, qI_uI, qI_uJ, qI_uR, y_N_came, y_C_came, y_fr_came, y_to_came, y_tol_came, y_sum_came, y_rows_came, y_ended_came, y_latest_came, y_q_came, y_log_came, y_fin_came, y_stand_came, y_over_came, y_held_came, y_M_came, y_cond_came, y_pos_came, y_kept_came, y_kEnd_came, y_kSum_came, y_kRows_came, y_fails_came, y_taken_came, y_acks_came, su_came, and_true, true_and, and_false, false_and, and_self, ↓reduceIte, Nat.reduceEqDiff]
  exact ⟨M.c_f0, M.c_f2, M.c_f7, M.c_f19, M.c_f29, M.c_r1, M.c_r2, M.c_r3, M.c_r4, M.c_r5, M.c_r6, M.c_q7, M.c_q8, M.c_r9, M.c_q10, M.c_r11, M.c_r12, M.c_r13, M.c_r14, M.c_r15, M.c_r16, M.c_r17, H, M.c_r19, M.c_r20, M.c_r21, M.c_r22, M.c_r23, M.c_r24, M.c_q25, M.c_q26⟩
theorem Mod.v_kept (M : Mod t s) {v : Nat → Int32} {g : Nat → Nat → Bool} (H : h2 v 8 40 8 (fun m x => b2i (g m x))) : Mod (uI t 6 0 19 v) (u_kept s g) := by
  unfold Mod
  simp only [rI_uI, rI_uJ, rI_uR, rI_wI, rI_wJ, rJ_uJ, rJ_uI, rJ_uR, rJ_wI, rJ_wJ, qI_wI, qI_wJ, qI_uI, qI_uJ, qI_uR, y_N_kept, y_C_kept, y_fr_kept, y_to_kept, y_tol_kept, y_sum_kept, y_rows_kept, y_ended_kept, y_latest_kept, y_q_kept, y_log_kept, y_fin_kept, y_stand_kept, y_over_kept, y_held_kept, y_M_kept, y_cond_kept, y_pos_kept, y_came_kept, y_kEnd_kept, y_kSum_kept, y_kRows_kept, y_fails_kept, y_taken_kept, y_acks_kept, su_kept, and_true, true_and, and_false, false_and, and_self, ↓reduceIte, Nat.reduceEqDiff]
  exact ⟨M.c_f0, M.c_f2, M.c_f7, M.c_f19, M.c_f29, M.c_r1, M.c_r2, M.c_r3, M.c_r4, M.c_r5, M.c_r6, M.c_q7, M.c_q8, M.c_r9, M.c_q10, M.c_r11, M.c_r12, M.c_r13, M.c_r14, M.c_r15, M.c_r16, M.c_r17, M.c_r18, H, M.c_r20, M.c_r21, M.c_r22, M.c_r23, M.c_r24, M.c_q25, M.c_q26⟩
theorem Mod.v_kEnd (M : Mod t s) {v : Nat → Int32} {g : Nat → Nat → Bool} (H : h2 v 8 40 8 (fun m x => b2i (g m x))) : Mod (uI t 6 0 20 v) (u_kEnd s g) := by
  unfold Mod
  simp only [rI_uI, rI_uJ, rI_uR, rI_wI, rI_wJ, rJ_uJ, rJ_uI, rJ_uR, rJ_wI, rJ_wJ, qI_wI, qI_wJ, qI_uI, qI_uJ, qI_uR, y_N_kEnd, y_C_kEnd, y_fr_kEnd, y_to_kEnd, y_tol_kEnd, y_sum_kEnd, y_rows_kEnd, y_ended_kEnd, y_latest_kEnd, y_q_kEnd, y_log_kEnd, y_fin_kEnd, y_stand_kEnd, y_over_kEnd, y_held_kEnd, y_M_kEnd, y_cond_kEnd, y_pos_kEnd, y_came_kEnd, y_kept_kEnd, y_kSum_kEnd, y_kRows_kEnd, y_fails_kEnd, y_taken_kEnd, y_acks_kEnd, su_kEnd, and_true, true_and, and_false, false_and, and_self, ↓reduceIte, Nat.reduceEqDiff]
  exact ⟨M.c_f0, M.c_f2, M.c_f7, M.c_f19, M.c_f29, M.c_r1, M.c_r2, M.c_r3, M.c_r4, M.c_r5, M.c_r6, M.c_q7, M.c_q8, M.c_r9, M.c_q10, M.c_r11, M.c_r12, M.c_r13, M.c_r14, M.c_r15, M.c_r16, M.c_r17, M.c_r18, M.c_r19, H, M.c_r21, M.c_r22, M.c_r23, M.c_r24, M.c_q25, M.c_q26⟩
theorem Mod.v_kSum (M : Mod t s) {v : Nat → Int64} {g : Nat → Nat → Int64} (H : h2 v 8 40 8 (fun m x => g m x)) : Mod (uJ t 6 0 21 v) (u_kSum s g) := by
  unfold Mod
  simp only [rI_uI, rI_uJ, rI_uR, rI_wI, rI_wJ, rJ_uJ, rJ_uI, rJ_uR, rJ_wI, rJ_wJ, qI_wI, qI_wJ, qI_uI, qI_uJ, qI_uR, y_N_kSum, y_C_kSum, y_fr_kSum, y_to_kSum, y_tol_kSum, y_sum_kSum, y_rows_kSum, y_ended_kSum, y_latest_kSum, y_q_kSum, y_log_kSum, y_fin_kSum, y_stand_kSum, y_over_kSum, y_held_kSum, y_M_kSum, y_cond_kSum, y_pos_kSum, y_came_kSum, y_kept_kSum, y_kEnd_kSum, y_kRows_kSum, y_fails_kSum, y_taken_kSum, y_acks_kSum, su_kSum, and_true, true_and, and_false, false_and, and_self, ↓reduceIte, Nat.reduceEqDiff]
  exact ⟨M.c_f0, M.c_f2, M.c_f7, M.c_f19, M.c_f29, M.c_r1, M.c_r2, M.c_r3, M.c_r4, M.c_r5, M.c_r6, M.c_q7, M.c_q8, M.c_r9, M.c_q10, M.c_r11, M.c_r12, M.c_r13, M.c_r14, M.c_r15, M.c_r16, M.c_r17, M.c_r18, M.c_r19, M.c_r20, H, M.c_r22, M.c_r23, M.c_r24, M.c_q25, M.c_q26⟩
theorem Mod.v_kRows (M : Mod t s) {v : Nat → Int32} {g : Nat → Nat → Int32} (H : h2 v 8 40 8 (fun m x => g m x)) : Mod (uI t 6 0 22 v) (u_kRows s g) := by
  unfold Mod
  simp only [rI_uI, rI_uJ, rI_uR, rI_wI, rI_wJ, rJ_uJ, rJ_uI, rJ_uR, rJ_wI, rJ_wJ, qI_wI, qI_wJ, qI_uI, qI_uJ, qI_uR, y_N_kRows, y_C_kRows, y_fr_kRows, y_to_kRows, y_tol_kRows, y_sum_kRows, y_rows_kRows, y_ended_kRows, y_latest_kRows, y_q_kRows, y_log_kRows, y_fin_kRows, y_stand_kRows, y_over_kRows, y_held_kRows, y_M_kRows, y_cond_kRows, y_pos_kRows, y_came_kRows, y_kept_kRows, y_kEnd_kRows, y_kSum_kRows, y_fails_kRows, y_taken_kRows, y_acks_kRows, su_kRows, and_true, true_and, and_false, false_and, and_self, ↓reduceIte, Nat.reduceEqDiff]
  exact ⟨M.c_f0, M.c_f2, M.c_f7, M.c_f19, M.c_f29, M.c_r1, M.c_r2, M.c_r3, M.c_r4, M.c_r5, M.c_r6, M.c_q7, M.c_q8, M.c_r9, M.c_q10, M.c_r11, M.c_r12, M.c_r13, M.c_r14, M.c_r15, M.c_r16, M.c_r17, M.c_r18, M.c_r19, M.c_r20, M.c_r21, H, M.c_r23, M.c_r24, M.c_q25, M.c_q26⟩
theorem Mod.v_fails (M : Mod t s) {v : Nat → Int32} {g : Nat → Nat → Bool} (H : h2 v 8 40 8 (fun m x => b2i (g m x))) : Mod (uI t 6 0 23 v) (u_fails s g) := by
  unfold Mod
  simp only [rI_uI, rI_uJ, rI_uR, rI_wI, rI_wJ, rJ_uJ, rJ_uI, rJ_uR, rJ_wI, rJ_wJ, qI_wI, qI_wJ, qI_uI, qI_uJ, qI_uR, y_N_fails, y_C_fails, y_fr_fails, y_to_fails, y_tol_fails, y_sum_fails, y_rows_fails, y_ended_fails, y_latest_fails, y_q_fails, y_log_fails, y_fin_fails, y_stand_fails, y_over_fails, y_held_fails, y_M_fails, y_cond_fails, y_pos_fails, y_came_fails, y_kept_fails, y_kEnd_fails, y_kSum_fails, y_kRows_fails, y_taken_fails, y_acks_fails, su_fails, and_true, true_and, and_false, false_and, and_self, ↓reduceIte, Nat.reduceEqDiff]
  exact ⟨M.c_f0, M.c_f2, M.c_f7, M.c_f19, M.c_f29, M.c_r1, M.c_r2, M.c_r3, M.c_r4, M.c_r5, M.c_r6, M.c_q7, M.c_q8, M.c_r9, M.c_q10, M.c_r11, M.c_r12, M.c_r13, M.c_r14, M.c_r15, M.c_r16, M.c_r17, M.c_r18, M.c_r19, M.c_r20, M.c_r21, M.c_r22, H, M.c_r24, M.c_q25, M.c_q26⟩
theorem Mod.v_taken (M : Mod t s) {v : Nat → Int32} {g : Nat → Nat → Bool} (H : h2 v 8 40 8 (fun m x => b2i (g m x))) : Mod (uI t 6 0 24 v) (u_taken s g) := by
  unfold Mod
  simp only [rI_uI, rI_uJ, rI_uR, rI_wI, rI_wJ, rJ_uJ, rJ_uI, rJ_uR, rJ_wI, rJ_wJ, qI_wI, qI_wJ, qI_uI, qI_uJ, qI_uR, y_N_taken, y_C_taken, y_fr_taken, y_to_taken, y_tol_taken, y_sum_taken, y_rows_taken, y_ended_taken, y_latest_taken, y_q_taken, y_log_taken, y_fin_taken, y_stand_taken, y_over_taken, y_held_taken, y_M_taken, y_cond_taken, y_pos_taken, y_came_taken, y_kept_taken, y_kEnd_taken, y_kSum_taken, y_kRows_taken, y_fails_taken, y_acks_taken, su_taken, and_true, true_and, and_false, false_and, and_self, ↓reduceIte, Nat.reduceEqDiff]
  exact ⟨M.c_f0, M.c_f2, M.c_f7, M.c_f19, M.c_f29, M.c_r1, M.c_r2, M.c_r3, M.c_r4, M.c_r5, M.c_r6, M.c_q7, M.c_q8, M.c_r9, M.c_q10, M.c_r11, M.c_r12, M.c_r13, M.c_r14, M.c_r15, M.c_r16, M.c_r17, M.c_r18, M.c_r19, M.c_r20, M.c_r21, M.c_r22, M.c_r23, H, M.c_q25, M.c_q26⟩
theorem Mod.v_q (M : Mod t s) {a c : Nat → Int32} {b : Nat → Int64} {g : Nat → List (Nat × Int64)} (H7 : ∀ c, c < 16 → hL a (16 * c) (g c) (fun z => nI z.1)) (H8 : ∀ c, c < 16 → hL b (16 * c) (g c) (fun z => z.2)) (H9 : hI c 16 (fun x => nI (g x).length)) : Mod (uI (uJ (uI t 6 0 7 a) 6 0 8 b) 6 0 9 c) (u_q s g) := by
  unfold Mod
  simp only [rI_uI, rI_uJ, rI_uR, rI_wI, rI_wJ, rJ_uJ, rJ_uI, rJ_uR, rJ_wI, rJ_wJ, qI_wI, qI_wJ, qI_uI, qI_uJ, qI_uR, y_N_q, y_C_q, y_fr_q, y_to_q, y_tol_q, y_sum_q, y_rows_q, y_ended_q, y_latest_q, y_log_q, y_fin_q, y_stand_q, y_over_q, y_held_q, y_M_q, y_cond_q, y_pos_q, y_came_q, y_kept_q, y_kEnd_q, y_kSum_q, y_kRows_q, y_fails_q, y_taken_q, y_acks_q, su_q, and_true, true_and, and_false, false_and, and_self, ↓reduceIte, Nat.reduceEqDiff]
  exact ⟨M.c_f0, M.c_f2, M.c_f7, M.c_f19, M.c_f29, M.c_r1, M.c_r2, M.c_r3, M.c_r4, M.c_r5, M.c_r6, H7, H8, H9, M.c_q10, M.c_r11, M.c_r12, M.c_r13, M.c_r14, M.c_r15, M.c_r16, M.c_r17, M.c_r18, M.c_r19, M.c_r20, M.c_r21, M.c_r22, M.c_r23, M.c_r24, M.c_q25, M.c_q26⟩
theorem Mod.v_q9 (M : Mod t s) {c : Nat → Int32} {g : Nat → List (Nat × Int64)} (H7 : ∀ c, c < 16 → hL (rI t 6 0 7) (16 * c) (g c) (fun z => nI z.1)) (H8 : ∀ c, c < 16 → hL (rJ t 6 0 8) (16 * c) (g c) (fun z => z.2)) (H9 : hI c 16 (fun x => nI (g x).length)) : Mod (uI t 6 0 9 c) (u_q s g) := by
  unfold Mod
  simp only [rI_uI, rI_uJ, rI_uR, rI_wI, rI_wJ, rJ_uJ, rJ_uI, rJ_uR, rJ_wI, rJ_wJ, qI_wI, qI_wJ, qI_uI, qI_uJ, qI_uR, y_N_q, y_C_q, y_fr_q, y_to_q, y_tol_q, y_sum_q, y_rows_q, y_ended_q, y_latest_q, y_log_q, y_fin_q, y_stand_q, y_over_q, y_held_q, y_M_q, y_cond_q, y_pos_q, y_came_q, y_kept_q, y_kEnd_q, y_kSum_q, y_kRows_q, y_fails_q, y_taken_q, y_acks_q, su_q, and_true, true_and, and_false, false_and, and_self, ↓reduceIte, Nat.reduceEqDiff]
  exact ⟨M.c_f0, M.c_f2, M.c_f7, M.c_f19, M.c_f29, M.c_r1, M.c_r2, M.c_r3, M.c_r4, M.c_r5, M.c_r6, H7, H8, H9, M.c_q10, M.c_r11, M.c_r12, M.c_r13, M.c_r14, M.c_r15, M.c_r16, M.c_r17, M.c_r18, M.c_r19, M.c_r20, M.c_r21, M.c_r22, M.c_r23, M.c_r24, M.c_q25, M.c_q26⟩
theorem Mod.v_log (M : Mod t s) {b : Nat → Int32} {a : Nat → Int64} {g : Nat → List Int64} (H10 : ∀ c, c < 16 → hL a (200 * c) (g c) (fun z => z)) (H11 : hI b 16 (fun x => nI (g x).length)) : Mod (uI (uJ t 6 0 10 a) 6 0 11 b) (u_log s g) := by
  unfold Mod
  simp only [rI_uI, rI_uJ, rI_uR, rI_wI, rI_wJ, rJ_uJ, rJ_uI, rJ_uR, rJ_wI, rJ_wJ, qI_wI, qI_wJ, qI_uI, qI_uJ, qI_uR, y_N_log, y_C_log, y_fr_log, y_to_log, y_tol_log, y_sum_log, y_rows_log, y_ended_log, y_latest_log, y_q_log, y_fin_log, y_stand_log, y_over_log, y_held_log, y_M_log, y_cond_log, y_pos_log, y_came_log, y_kept_log, y_kEnd_log, y_kSum_log, y_kRows_log, y_fails_log, y_taken_log, y_acks_log, su_log, and_true, true_and, and_false, false_and, and_self, ↓reduceIte, Nat.reduceEqDiff]
  exact ⟨M.c_f0, M.c_f2, M.c_f7, M.c_f19, M.c_f29, M.c_r1, M.c_r2, M.c_r3, M.c_r4, M.c_r5, M.c_r6, M.c_q7, M.c_q8, M.c_r9, H10, H11, M.c_r12, M.c_r13, M.c_r14, M.c_r15, M.c_r16, M.c_r17, M.c_r18, M.c_r19, M.c_r20, M.c_r21, M.c_r22, M.c_r23, M.c_r24, M.c_q25, M.c_q26⟩
theorem Mod.v_acks (M : Mod t s) {a b : Nat → Int32} {v : Int32} {g : List (Nat × Nat)} (H25 : hL a 0 g (fun z => nI z.1)) (H26 : hL b 0 g (fun z => nI z.2)) (H29 : v = nI g.length) : Mod (wI (uI (uI t 6 0 25 a) 6 0 26 b) 6 0 29 v) (u_acks s g) := by
  unfold Mod
  simp only [rI_uI, rI_uJ, rI_uR, rI_wI, rI_wJ, rJ_uJ, rJ_uI, rJ_uR, rJ_wI, rJ_wJ, qI_wI, qI_wJ, qI_uI, qI_uJ, qI_uR, y_N_acks, y_C_acks, y_fr_acks, y_to_acks, y_tol_acks, y_sum_acks, y_rows_acks, y_ended_acks, y_latest_acks, y_q_acks, y_log_acks, y_fin_acks, y_stand_acks, y_over_acks, y_held_acks, y_M_acks, y_cond_acks, y_pos_acks, y_came_acks, y_kept_acks, y_kEnd_acks, y_kSum_acks, y_kRows_acks, y_fails_acks, y_taken_acks, su_acks, and_true, true_and, and_false, false_and, and_self, ↓reduceIte, Nat.reduceEqDiff]
  exact ⟨M.c_f0, M.c_f2, M.c_f7, M.c_f19, H29, M.c_r1, M.c_r2, M.c_r3, M.c_r4, M.c_r5, M.c_r6, M.c_q7, M.c_q8, M.c_r9, M.c_q10, M.c_r11, M.c_r12, M.c_r13, M.c_r14, M.c_r15, M.c_r16, M.c_r17, M.c_r18, M.c_r19, M.c_r20, M.c_r21, M.c_r22, M.c_r23, M.c_r24, H25, H26⟩
theorem Mod.v_acksF (M : Mod t s) {v : Int32} {g : List (Nat × Nat)} (H25 : hL (rI t 6 0 25) 0 g (fun z => nI z.1)) (H26 : hL (rI t 6 0 26) 0 g (fun z => nI z.2)) (H29 : v = nI g.length) : Mod (wI t 6 0 29 v) (u_acks s g) := by
  unfold Mod
  simp only [rI_uI, rI_uJ, rI_uR, rI_wI, rI_wJ, rJ_uJ, rJ_uI, rJ_uR, rJ_wI, rJ_wJ, qI_wI, qI_wJ, qI_uI, qI_uJ, qI_uR, y_N_acks, y_C_acks, y_fr_acks, y_to_acks, y_tol_acks, y_sum_acks, y_rows_acks, y_ended_acks, y_latest_acks, y_q_acks, y_log_acks, y_fin_acks, y_stand_acks, y_over_acks, y_held_acks, y_M_acks, y_cond_acks, y_pos_acks, y_came_acks, y_kept_acks, y_kEnd_acks, y_kSum_acks, y_kRows_acks, y_fails_acks, y_taken_acks, su_acks, and_true, true_and, and_false, false_and, and_self, ↓reduceIte, Nat.reduceEqDiff]
  exact ⟨M.c_f0, M.c_f2, M.c_f7, M.c_f19, H29, M.c_r1, M.c_r2, M.c_r3, M.c_r4, M.c_r5, M.c_r6, M.c_q7, M.c_q8, M.c_r9, M.c_q10, M.c_r11, M.c_r12, M.c_r13, M.c_r14, M.c_r15, M.c_r16, M.c_r17, M.c_r18, M.c_r19, M.c_r20, M.c_r21, M.c_r22, M.c_r23, M.c_r24, H25, H26⟩
theorem Mod.v_tol (M : Mod t s) {v : Int32} {g : Bool} (H : v = b2i g) : Mod (wI t 6 0 2 v) (u_tol s g) := by
  unfold Mod
  simp only [rI_uI, rI_uJ, rI_uR, rI_wI, rI_wJ, rJ_uJ, rJ_uI, rJ_uR, rJ_wI, rJ_wJ, qI_wI, qI_wJ, qI_uI, qI_uJ, qI_uR, y_N_tol, y_C_tol, y_fr_tol, y_to_tol, y_sum_tol, y_rows_tol, y_ended_tol, y_latest_tol, y_q_tol, y_log_tol, y_fin_tol, y_stand_tol, y_over_tol, y_held_tol, y_M_tol, y_cond_tol, y_pos_tol, y_came_tol, y_kept_tol, y_kEnd_tol, y_kSum_tol, y_kRows_tol, y_fails_tol, y_taken_tol, y_acks_tol, su_tol, and_true, true_and, and_false, false_and, and_self, ↓reduceIte, Nat.reduceEqDiff]
  exact ⟨M.c_f0, H, M.c_f7, M.c_f19, M.c_f29, M.c_r1, M.c_r2, M.c_r3, M.c_r4, M.c_r5, M.c_r6, M.c_q7, M.c_q8, M.c_r9, M.c_q10, M.c_r11, M.c_r12, M.c_r13, M.c_r14, M.c_r15, M.c_r16, M.c_r17, M.c_r18, M.c_r19, M.c_r20, M.c_r21, M.c_r22, M.c_r23, M.c_r24, M.c_q25, M.c_q26⟩
theorem Mod.v_M (M : Mod t s) {v : Int32} {g : Nat} (H : v = nI g) : Mod (wI t 6 0 19 v) (u_M s g) := by
  unfold Mod
  simp only [rI_uI, rI_uJ, rI_uR, rI_wI, rI_wJ, rJ_uJ, rJ_uI, rJ_uR, rJ_wI, rJ_wJ, qI_wI, qI_wJ, qI_uI, qI_uJ, qI_uR, y_N_M, y_C_M, y_fr_M, y_to_M, y_tol_M, y_sum_M, y_rows_M, y_ended_M, y_latest_M, y_q_M, y_log_M, y_fin_M, y_stand_M, y_over_M, y_held_M, y_cond_M, y_pos_M, y_came_M, y_kept_M, y_kEnd_M, y_kSum_M, y_kRows_M, y_fails_M, y_taken_M, y_acks_M, su_M, and_true, true_and, and_false, false_and, and_self, ↓reduceIte, Nat.reduceEqDiff]
  exact ⟨M.c_f0, M.c_f2, M.c_f7, H, M.c_f29, M.c_r1, M.c_r2, M.c_r3, M.c_r4, M.c_r5, M.c_r6, M.c_q7, M.c_q8, M.c_r9, M.c_q10, M.c_r11, M.c_r12, M.c_r13, M.c_r14, M.c_r15, M.c_r16, M.c_r17, M.c_r18, M.c_r19, M.c_r20, M.c_r21, M.c_r22, M.c_r23, M.c_r24, M.c_q25, M.c_q26⟩
theorem Mod.v_code (M : Mod t s) {v : Int32} : Mod (wI t 6 0 1 v) (s) := by
  unfold Mod
  simp only [rI_uI, rI_uJ, rI_uR, rI_wI, rI_wJ, rJ_uJ, rJ_uI, rJ_uR, rJ_wI, rJ_wJ, qI_wI, qI_wJ, qI_uI, qI_uJ, qI_uR, and_true, true_and, and_false, false_and, and_self, ↓reduceIte, Nat.reduceEqDiff]
  exact ⟨M.c_f0, M.c_f2, M.c_f7, M.c_f19, M.c_f29, M.c_r1, M.c_r2, M.c_r3, M.c_r4, M.c_r5, M.c_r6, M.c_q7, M.c_q8, M.c_r9, M.c_q10, M.c_r11, M.c_r12, M.c_r13, M.c_r14, M.c_r15, M.c_r16, M.c_r17, M.c_r18, M.c_r19, M.c_r20, M.c_r21, M.c_r22, M.c_r23, M.c_r24, M.c_q25, M.c_q26⟩
theorem Mod.v_27 (M : Mod t s) {v : Nat → Int64} : Mod (uJ t 6 0 27 v) (s) := by
  unfold Mod
  simp only [rI_uI, rI_uJ, rI_uR, rI_wI, rI_wJ, rJ_uJ, rJ_uI, rJ_uR, rJ_wI, rJ_wJ, qI_wI, qI_wJ, qI_uI, qI_uJ, qI_uR, and_true, true_and, and_false, false_and, and_self, ↓reduceIte, Nat.reduceEqDiff]
  exact ⟨M.c_f0, M.c_f2, M.c_f7, M.c_f19, M.c_f29, M.c_r1, M.c_r2, M.c_r3, M.c_r4, M.c_r5, M.c_r6, M.c_q7, M.c_q8, M.c_r9, M.c_q10, M.c_r11, M.c_r12, M.c_r13, M.c_r14, M.c_r15, M.c_r16, M.c_r17, M.c_r18, M.c_r19, M.c_r20, M.c_r21, M.c_r22, M.c_r23, M.c_r24, M.c_q25, M.c_q26⟩
theorem Mod.v_28 (M : Mod t s) {v : Nat → Int64} : Mod (uJ t 6 0 28 v) (s) := by
  unfold Mod
  simp only [rI_uI, rI_uJ, rI_uR, rI_wI, rI_wJ, rJ_uJ, rJ_uI, rJ_uR, rJ_wI, rJ_wJ, qI_wI, qI_wJ, qI_uI, qI_uJ, qI_uR, and_true, true_and, and_false, false_and, and_self, ↓reduceIte, Nat.reduceEqDiff]
  exact ⟨M.c_f0, M.c_f2, M.c_f7, M.c_f19, M.c_f29, M.c_r1, M.c_r2, M.c_r3, M.c_r4, M.c_r5, M.c_r6, M.c_q7, M.c_q8, M.c_r9, M.c_q10, M.c_r11, M.c_r12, M.c_r13, M.c_r14, M.c_r15, M.c_r16, M.c_r17, M.c_r18, M.c_r19, M.c_r20, M.c_r21, M.c_r22, M.c_r23, M.c_r24, M.c_q25, M.c_q26⟩
end PM
/-- bounds of the mathematical state -/
def Wf (s : zSt) : Prop := 1 ≤ s_N s ∧ s_N s ≤ 8 ∧ s_C s ≤ 16 ∧ s_M s ≤ 40 ∧ (∀ c, c < s_C s → s_to s c < s_N s) ∧ (∀ c k, c < s_C s → s_fr s c = some k → k < s_N s) ∧ (∀ c, (s_q s c).length ≤ 12) ∧ (∀ c, (s_log s c).length ≤ 200) ∧ (∀ c, s_stand s c ≤ (s_log s c).length) ∧ (∀ c k, s_held s c = some k → k < s_M s) ∧ (∀ x k, s_latest s x = some k → k < s_C s) ∧ (∀ z, z ∈ s_acks s → z.1 < s_M s ∧ z.2 < s_N s) ∧ (s_acks s).length ≤ 1000 ∧ (∀ m, s_cond s m ≤ 2) ∧ (∀ m c, s_pos s m c ≤ 200) ∧ (∀ c z, z ∈ s_q s c → z.1 ≤ 2) ∧ (∀ c z, z ∈ s_q s c → z.1 = 1 → ∃ m, m < s_M s ∧ z.2 = lN m) ∧ (∀ c, c < s_C s → s_fr s c = none → s_q s c = [])
section PM
variable {s : zSt}
theorem Wf.N1 (w : Wf s)  : 1 ≤ s_N s := w.1
theorem Wf.N8 (w : Wf s)  : s_N s ≤ 8 := w.2.1
theorem Wf.C (w : Wf s)  : s_C s ≤ 16 := w.2.2.1
theorem Wf.M (w : Wf s)  : s_M s ≤ 40 := w.2.2.2.1
theorem Wf.to (w : Wf s) {c : Nat} (hc : c < s_C s) : s_to s c < s_N s := w.2.2.2.2.1 c hc
theorem Wf.fr (w : Wf s) {c k : Nat} (hc : c < s_C s) (hk : s_fr s c = some k) : k < s_N s := w.2.2.2.2.2.1 c k hc hk
theorem Wf.q (w : Wf s) (c : Nat) : (s_q s c).length ≤ 12 := w.2.2.2.2.2.2.1 c
theorem Wf.log (w : Wf s) (c : Nat) : (s_log s c).length ≤ 200 := w.2.2.2.2.2.2.2.1 c
theorem Wf.stand (w : Wf s) (c : Nat) : s_stand s c ≤ (s_log s c).length := w.2.2.2.2.2.2.2.2.1 c
theorem Wf.held (w : Wf s) {c k : Nat} (hk : s_held s c = some k) : k < s_M s := w.2.2.2.2.2.2.2.2.2.1 c k hk
theorem Wf.latest (w : Wf s) {x k : Nat} (hk : s_latest s x = some k) : k < s_C s := w.2.2.2.2.2.2.2.2.2.2.1 x k hk
theorem Wf.acks (w : Wf s) {z : Nat × Nat} (hz : z ∈ s_acks s) : z.1 < s_M s ∧ z.2 < s_N s := w.2.2.2.2.2.2.2.2.2.2.2.1 z hz
theorem Wf.ackn (w : Wf s)  : (s_acks s).length ≤ 1000 := w.2.2.2.2.2.2.2.2.2.2.2.2.1
theorem Wf.cond (w : Wf s) (m : Nat) : s_cond s m ≤ 2 := w.2.2.2.2.2.2.2.2.2.2.2.2.2.1 m
theorem Wf.pos (w : Wf s) (m c : Nat) : s_pos s m c ≤ 200 := w.2.2.2.2.2.2.2.2.2.2.2.2.2.2.1 m c
theorem Wf.kin (w : Wf s) {c : Nat} {z : Nat × Int64} (hz : z ∈ s_q s c) : z.1 ≤ 2 := w.2.2.2.2.2.2.2.2.2.2.2.2.2.2.2.1 c z hz
theorem Wf.bar (w : Wf s) {c : Nat} {z : Nat × Int64} (hz : z ∈ s_q s c) (h1 : z.1 = 1) : ∃ m, m < s_M s ∧ z.2 = lN m := w.2.2.2.2.2.2.2.2.2.2.2.2.2.2.2.2.1 c z hz h1
theorem Wf.src (w : Wf s) {c : Nat} (hc : c < s_C s) (hf : s_fr s c = none) : s_q s c = [] := w.2.2.2.2.2.2.2.2.2.2.2.2.2.2.2.2.2 c hc hf
end PM
