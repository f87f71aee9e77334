/-! THE CLASS'S OBJECTS: their cells are there, with their lengths -/
def oK (e : pE) (k i : Nat) (L : List Nat) : Prop := pOk e ∧ (∀ s, s < L.length → pIs e k i s) ∧ ∀ s, s < L.length → e.2.2.2 k i s = L.getD s 0
section PO
variable {e : pE} {t : pS} {i N n : Nat}
def o0K (e : pE) (i N : Nat) : Prop := oK e 0 i [0, N, 16, 40, N, N]
theorem i0_0 (o : o0K e i N) : pIs e 0 i 0 := o.2.1 0 (by simp)
theorem i0_1 (o : o0K e i N) : pIs e 0 i 1 := o.2.1 1 (by simp)
theorem n0_1 (o : o0K e i N) : e.2.2.2 0 i 1 = N := o.2.2 1 (by simp)
theorem i0_2 (o : o0K e i N) : pIs e 0 i 2 := o.2.1 2 (by simp)
theorem n0_2 (o : o0K e i N) : e.2.2.2 0 i 2 = 16 := o.2.2 2 (by simp)
theorem i0_3 (o : o0K e i N) : pIs e 0 i 3 := o.2.1 3 (by simp)
theorem n0_3 (o : o0K e i N) : e.2.2.2 0 i 3 = 40 := o.2.2 3 (by simp)
theorem i0_4 (o : o0K e i N) : pIs e 0 i 4 := o.2.1 4 (by simp)
theorem n0_4 (o : o0K e i N) : e.2.2.2 0 i 4 = N := o.2.2 4 (by simp)
theorem i0_5 (o : o0K e i N) : pIs e 0 i 5 := o.2.1 5 (by simp)
theorem n0_5 (o : o0K e i N) : e.2.2.2 0 i 5 = N := o.2.2 5 (by simp)
theorem b0 (o : o0K e i N) : z_obj (pv e t) (some (pL e 0 i 0)) [5] = some (pL e 0 i 0, 5, pfl e 0 i (qI t 0 i) (qJ t 0 i)) := ob_0 (i0_0 o)
theorem f0_0 (o : o0K e i N) : zgR (pv e t) (some (pL e 0 i 0)) [5] 0 = some (some (pL e 0 i 1)) := gf_0_0 (i0_0 o)
theorem f0_1 (o : o0K e i N) : zgR (pv e t) (some (pL e 0 i 0)) [5] 1 = some (some (pL e 0 i 2)) := gf_0_1 (i0_0 o)
theorem f0_2 (o : o0K e i N) : zgR (pv e t) (some (pL e 0 i 0)) [5] 2 = some (some (pL e 0 i 3)) := gf_0_2 (i0_0 o)
theorem f0_3 (o : o0K e i N) : zgR (pv e t) (some (pL e 0 i 0)) [5] 3 = some (some (pL e 1 0 0)) := gf_0_3 (i0_0 o)
theorem f0_4 (o : o0K e i N) : zgR (pv e t) (some (pL e 0 i 0)) [5] 4 = some (some (pL e 0 i 4)) := gf_0_4 (i0_0 o)
theorem f0_5 (o : o0K e i N) : zgR (pv e t) (some (pL e 0 i 0)) [5] 5 = some (some (pL e 0 i 5)) := gf_0_5 (i0_0 o)
theorem f0_6 (o : o0K e i N) : zgI (pv e t) (some (pL e 0 i 0)) [5] 6 = some (qI t 0 i 6) := gf_0_6 (i0_0 o)
theorem p0_6 (o : o0K e i N) (v : Int32) : zpI (pv e t) (some (pL e 0 i 0)) [5] 6 v = some (pv e (wI t 0 i 6 v)) := pf_0_6 o.1 (i0_0 o) v
theorem f0_7 (o : o0K e i N) : zgI (pv e t) (some (pL e 0 i 0)) [5] 7 = some (qI t 0 i 7) := gf_0_7 (i0_0 o)
theorem p0_7 (o : o0K e i N) (v : Int32) : zpI (pv e t) (some (pL e 0 i 0)) [5] 7 v = some (pv e (wI t 0 i 7 v)) := pf_0_7 o.1 (i0_0 o) v
theorem f0_8 (o : o0K e i N) : zgI (pv e t) (some (pL e 0 i 0)) [5] 8 = some (qI t 0 i 8) := gf_0_8 (i0_0 o)
theorem p0_8 (o : o0K e i N) (v : Int32) : zpI (pv e t) (some (pL e 0 i 0)) [5] 8 v = some (pv e (wI t 0 i 8 v)) := pf_0_8 o.1 (i0_0 o) v
theorem f0_9 (o : o0K e i N) : zgI (pv e t) (some (pL e 0 i 0)) [5] 9 = some (qI t 0 i 9) := gf_0_9 (i0_0 o)
theorem p0_9 (o : o0K e i N) {v : Int32} (hv : v = 0 ∨ v = 1) : zpZ (pv e t) (some (pL e 0 i 0)) [5] 9 v = some (pv e (wI t 0 i 9 v)) := pf_0_9 o.1 (i0_0 o) v hv
theorem g0_1 (o : o0K e i N) (hN : N < 2 ^ 31) {x : Nat} (hx : x < N) : zaR (pv e t) (some (pL e 0 i 1)) 3 (nI x) = some (rR t 0 i 1 x) := ga_0_1 (i0_1 o) (by rw [n0_1 o]; exact hx) (by rw [n0_1 o]; exact hN)
theorem a0_1 (o : o0K e i N) : zalen (pv e t) (some (pL e 0 i 1)) 3 = some (nI N) := by rw [al_0_1 (i0_1 o), n0_1 o]
theorem g0_2 (o : o0K e i N) {x : Nat} (hx : x < 16) : zaR (pv e t) (some (pL e 0 i 2)) 4 (nI x) = some (rR t 0 i 2 x) := ga_0_2 (i0_2 o) (by rw [n0_2 o]; exact hx) (by rw [n0_2 o]; decide)
theorem a0_2 (o : o0K e i N) : zalen (pv e t) (some (pL e 0 i 2)) 4 = some (nI 16) := by rw [al_0_2 (i0_2 o), n0_2 o]
theorem g0_3 (o : o0K e i N) {x : Nat} (hx : x < 40) : zaR (pv e t) (some (pL e 0 i 3)) 6 (nI x) = some (rR t 0 i 3 x) := ga_0_3 (i0_3 o) (by rw [n0_3 o]; exact hx) (by rw [n0_3 o]; decide)
theorem a0_3 (o : o0K e i N) : zalen (pv e t) (some (pL e 0 i 3)) 6 = some (nI 40) := by rw [al_0_3 (i0_3 o), n0_3 o]
theorem g0_4 (o : o0K e i N) (hN : N < 2 ^ 31) {x : Nat} (hx : x < N) : zaL (pv e t) (some (pL e 0 i 4)) 1 (nI x) = some (rJ t 0 i 4 x) := ga_0_4 (i0_4 o) (by rw [n0_4 o]; exact hx) (by rw [n0_4 o]; exact hN)
theorem a0_4 (o : o0K e i N) : zalen (pv e t) (some (pL e 0 i 4)) 1 = some (nI N) := by rw [al_0_4 (i0_4 o), n0_4 o]
theorem s0_4 (o : o0K e i N) (hN : N < 2 ^ 31) {x : Nat} (hx : x < N) (v : Int64) : zsL (pv e t) (some (pL e 0 i 4)) 1 (nI x) v = some (pv e (uJ t 0 i 4 (vp_updL (rJ t 0 i 4) x v))) := sa_0_4 o.1 (i0_4 o) (by rw [n0_4 o]; exact hx) (by rw [n0_4 o]; exact hN) v
theorem g0_5 (o : o0K e i N) (hN : N < 2 ^ 31) {x : Nat} (hx : x < N) : zaI (pv e t) (some (pL e 0 i 5)) 0 (nI x) = some (rI t 0 i 5 x) := ga_0_5 (i0_5 o) (by rw [n0_5 o]; exact hx) (by rw [n0_5 o]; exact hN)
theorem a0_5 (o : o0K e i N) : zalen (pv e t) (some (pL e 0 i 5)) 0 = some (nI N) := by rw [al_0_5 (i0_5 o), n0_5 o]
theorem s0_5 (o : o0K e i N) (hN : N < 2 ^ 31) {x : Nat} (hx : x < N) (v : Int32) : zsI (pv e t) (some (pL e 0 i 5)) 0 (nI x) v = some (pv e (uI t 0 i 5 (upd (rI t 0 i 5) x v))) := sa_0_5 o.1 (i0_5 o) (by rw [n0_5 o]; exact hx) (by rw [n0_5 o]; exact hN) v
def o1K (e : pE) (i N : Nat) : Prop := oK e 1 i [0, 520, 520]
theorem i1_0 (o : o1K e i N) : pIs e 1 i 0 := o.2.1 0 (by simp)
theorem i1_1 (o : o1K e i N) : pIs e 1 i 1 := o.2.1 1 (by simp)
theorem n1_1 (o : o1K e i N) : e.2.2.2 1 i 1 = 520 := o.2.2 1 (by simp)
theorem i1_2 (o : o1K e i N) : pIs e 1 i 2 := o.2.1 2 (by simp)
theorem n1_2 (o : o1K e i N) : e.2.2.2 1 i 2 = 520 := o.2.2 2 (by simp)
theorem b1 (o : o1K e i N) : z_obj (pv e t) (some (pL e 1 i 0)) [0] = some (pL e 1 i 0, 0, pfl e 1 i (qI t 1 i) (qJ t 1 i)) := ob_1 (i1_0 o)
theorem f1_0 (o : o1K e i N) : zgR (pv e t) (some (pL e 1 i 0)) [0] 0 = some (some (pL e 1 i 1)) := gf_1_0 (i1_0 o)
theorem f1_1 (o : o1K e i N) : zgR (pv e t) (some (pL e 1 i 0)) [0] 1 = some (some (pL e 1 i 2)) := gf_1_1 (i1_0 o)
theorem f1_2 (o : o1K e i N) : zgI (pv e t) (some (pL e 1 i 0)) [0] 2 = some (qI t 1 i 2) := gf_1_2 (i1_0 o)
theorem p1_2 (o : o1K e i N) (v : Int32) : zpI (pv e t) (some (pL e 1 i 0)) [0] 2 v = some (pv e (wI t 1 i 2 v)) := pf_1_2 o.1 (i1_0 o) v
theorem f1_3 (o : o1K e i N) : zgI (pv e t) (some (pL e 1 i 0)) [0] 3 = some (qI t 1 i 3) := gf_1_3 (i1_0 o)
theorem p1_3 (o : o1K e i N) (v : Int32) : zpI (pv e t) (some (pL e 1 i 0)) [0] 3 v = some (pv e (wI t 1 i 3 v)) := pf_1_3 o.1 (i1_0 o) v
theorem g1_1 (o : o1K e i N) {x : Nat} (hx : x < 520) : zaI (pv e t) (some (pL e 1 i 1)) 0 (nI x) = some (rI t 1 i 1 x) := ga_1_1 (i1_1 o) (by rw [n1_1 o]; exact hx) (by rw [n1_1 o]; decide)
theorem a1_1 (o : o1K e i N) : zalen (pv e t) (some (pL e 1 i 1)) 0 = some (nI 520) := by rw [al_1_1 (i1_1 o), n1_1 o]
theorem s1_1 (o : o1K e i N) {x : Nat} (hx : x < 520) (v : Int32) : zsI (pv e t) (some (pL e 1 i 1)) 0 (nI x) v = some (pv e (uI t 1 i 1 (upd (rI t 1 i 1) x v))) := sa_1_1 o.1 (i1_1 o) (by rw [n1_1 o]; exact hx) (by rw [n1_1 o]; decide) v
theorem g1_2 (o : o1K e i N) {x : Nat} (hx : x < 520) : zaI (pv e t) (some (pL e 1 i 2)) 0 (nI x) = some (rI t 1 i 2 x) := ga_1_2 (i1_2 o) (by rw [n1_2 o]; exact hx) (by rw [n1_2 o]; decide)
theorem a1_2 (o : o1K e i N) : zalen (pv e t) (some (pL e 1 i 2)) 0 = some (nI 520) := by rw [al_1_2 (i1_2 o), n1_2 o]
theorem s1_2 (o : o1K e i N) {x : Nat} (hx : x < 520) (v : Int32) : zsI (pv e t) (some (pL e 1 i 2)) 0 (nI x) v = some (pv e (uI t 1 i 2 (upd (rI t 1 i 2) x v))) := sa_1_2 o.1 (i1_2 o) (by rw [n1_2 o]; exact hx) (by rw [n1_2 o]; decide) v
def o2K (e : pE) (i N : Nat) : Prop := oK e 2 i [0, 16, 16]
theorem i2_0 (o : o2K e i N) : pIs e 2 i 0 := o.2.1 0 (by simp)
theorem i2_1 (o : o2K e i N) : pIs e 2 i 1 := o.2.1 1 (by simp)
theorem n2_1 (o : o2K e i N) : e.2.2.2 2 i 1 = 16 := o.2.2 1 (by simp)
theorem i2_2 (o : o2K e i N) : pIs e 2 i 2 := o.2.1 2 (by simp)
theorem n2_2 (o : o2K e i N) : e.2.2.2 2 i 2 = 16 := o.2.2 2 (by simp)
theorem b2 (o : o2K e i N) : z_obj (pv e t) (some (pL e 2 i 0)) [4] = some (pL e 2 i 0, 4, pfl e 2 i (qI t 2 i) (qJ t 2 i)) := ob_2 (i2_0 o)
theorem f2_0 (o : o2K e i N) : zgI (pv e t) (some (pL e 2 i 0)) [4] 0 = some (qI t 2 i 0) := gf_2_0 (i2_0 o)
theorem p2_0 (o : o2K e i N) (v : Int32) : zpI (pv e t) (some (pL e 2 i 0)) [4] 0 v = some (pv e (wI t 2 i 0 v)) := pf_2_0 o.1 (i2_0 o) v
theorem f2_1 (o : o2K e i N) : zgR (pv e t) (some (pL e 2 i 0)) [4] 1 = some (some (pL e 2 i 1)) := gf_2_1 (i2_0 o)
theorem f2_2 (o : o2K e i N) : zgR (pv e t) (some (pL e 2 i 0)) [4] 2 = some (some (pL e 2 i 2)) := gf_2_2 (i2_0 o)
theorem f2_3 (o : o2K e i N) : zgI (pv e t) (some (pL e 2 i 0)) [4] 3 = some (qI t 2 i 3) := gf_2_3 (i2_0 o)
theorem p2_3 (o : o2K e i N) (v : Int32) : zpI (pv e t) (some (pL e 2 i 0)) [4] 3 v = some (pv e (wI t 2 i 3 v)) := pf_2_3 o.1 (i2_0 o) v
theorem f2_4 (o : o2K e i N) : zgI (pv e t) (some (pL e 2 i 0)) [4] 4 = some (qI t 2 i 4) := gf_2_4 (i2_0 o)
theorem p2_4 (o : o2K e i N) (v : Int32) : zpI (pv e t) (some (pL e 2 i 0)) [4] 4 v = some (pv e (wI t 2 i 4 v)) := pf_2_4 o.1 (i2_0 o) v
theorem f2_5 (o : o2K e i N) : zgI (pv e t) (some (pL e 2 i 0)) [4] 5 = some (qI t 2 i 5) := gf_2_5 (i2_0 o)
theorem p2_5 (o : o2K e i N) (v : Int32) : zpI (pv e t) (some (pL e 2 i 0)) [4] 5 v = some (pv e (wI t 2 i 5 v)) := pf_2_5 o.1 (i2_0 o) v
theorem f2_6 (o : o2K e i N) : zgL (pv e t) (some (pL e 2 i 0)) [4] 6 = some (qJ t 2 i 6) := gf_2_6 (i2_0 o)
theorem p2_6 (o : o2K e i N) (v : Int64) : zpL (pv e t) (some (pL e 2 i 0)) [4] 6 v = some (pv e (wJ t 2 i 6 v)) := pf_2_6 o.1 (i2_0 o) v
theorem f2_7 (o : o2K e i N) : zgI (pv e t) (some (pL e 2 i 0)) [4] 7 = some (qI t 2 i 7) := gf_2_7 (i2_0 o)
theorem p2_7 (o : o2K e i N) (v : Int32) : zpI (pv e t) (some (pL e 2 i 0)) [4] 7 v = some (pv e (wI t 2 i 7 v)) := pf_2_7 o.1 (i2_0 o) v
theorem f2_8 (o : o2K e i N) : zgI (pv e t) (some (pL e 2 i 0)) [4] 8 = some (qI t 2 i 8) := gf_2_8 (i2_0 o)
theorem p2_8 (o : o2K e i N) {v : Int32} (hv : v = 0 ∨ v = 1) : zpZ (pv e t) (some (pL e 2 i 0)) [4] 8 v = some (pv e (wI t 2 i 8 v)) := pf_2_8 o.1 (i2_0 o) v hv
theorem g2_1 (o : o2K e i N) {x : Nat} (hx : x < 16) : zaR (pv e t) (some (pL e 2 i 1)) 4 (nI x) = some (rR t 2 i 1 x) := ga_2_1 (i2_1 o) (by rw [n2_1 o]; exact hx) (by rw [n2_1 o]; decide)
theorem a2_1 (o : o2K e i N) : zalen (pv e t) (some (pL e 2 i 1)) 4 = some (nI 16) := by rw [al_2_1 (i2_1 o), n2_1 o]
theorem g2_2 (o : o2K e i N) {x : Nat} (hx : x < 16) : zaR (pv e t) (some (pL e 2 i 2)) 5 (nI x) = some (rR t 2 i 2 x) := ga_2_2 (i2_2 o) (by rw [n2_2 o]; exact hx) (by rw [n2_2 o]; decide)
theorem a2_2 (o : o2K e i N) : zalen (pv e t) (some (pL e 2 i 2)) 5 = some (nI 16) := by rw [al_2_2 (i2_2 o), n2_2 o]
def o3K (e : pE) (i N : Nat) : Prop := oK e 3 i [0, 200, 40, 40, 3]
theorem i3_0 (o : o3K e i N) : pIs e 3 i 0 := o.2.1 0 (by simp)
theorem i3_1 (o : o3K e i N) : pIs e 3 i 1 := o.2.1 1 (by simp)
theorem n3_1 (o : o3K e i N) : e.2.2.2 3 i 1 = 200 := o.2.2 1 (by simp)
theorem i3_2 (o : o3K e i N) : pIs e 3 i 2 := o.2.1 2 (by simp)
theorem n3_2 (o : o3K e i N) : e.2.2.2 3 i 2 = 40 := o.2.2 2 (by simp)
theorem i3_3 (o : o3K e i N) : pIs e 3 i 3 := o.2.1 3 (by simp)
theorem n3_3 (o : o3K e i N) : e.2.2.2 3 i 3 = 40 := o.2.2 3 (by simp)
theorem i3_4 (o : o3K e i N) : pIs e 3 i 4 := o.2.1 4 (by simp)
theorem n3_4 (o : o3K e i N) : e.2.2.2 3 i 4 = 3 := o.2.2 4 (by simp)
theorem b3 (o : o3K e i N) : z_obj (pv e t) (some (pL e 3 i 0)) [1] = some (pL e 3 i 0, 1, pfl e 3 i (qI t 3 i) (qJ t 3 i)) := ob_3 (i3_0 o)
theorem bc3 (o : o3K e i N) : z_obj (pv e t) (some (pL e 3 i 0)) [1, 2] = some (pL e 3 i 0, 1, pfl e 3 i (qI t 3 i) (qJ t 3 i)) := obc_3 (i3_0 o)
theorem f3_0 (o : o3K e i N) : zgI (pv e t) (some (pL e 3 i 0)) [1] 0 = some (qI t 3 i 0) := gf_3_0 (i3_0 o)
theorem p3_0 (o : o3K e i N) (v : Int32) : zpI (pv e t) (some (pL e 3 i 0)) [1] 0 v = some (pv e (wI t 3 i 0 v)) := pf_3_0 o.1 (i3_0 o) v
theorem f3_1 (o : o3K e i N) : zgI (pv e t) (some (pL e 3 i 0)) [1] 1 = some (qI t 3 i 1) := gf_3_1 (i3_0 o)
theorem p3_1 (o : o3K e i N) (v : Int32) : zpI (pv e t) (some (pL e 3 i 0)) [1] 1 v = some (pv e (wI t 3 i 1 v)) := pf_3_1 o.1 (i3_0 o) v
theorem f3_2 (o : o3K e i N) : zgI (pv e t) (some (pL e 3 i 0)) [1] 2 = some (qI t 3 i 2) := gf_3_2 (i3_0 o)
theorem p3_2 (o : o3K e i N) (v : Int32) : zpI (pv e t) (some (pL e 3 i 0)) [1] 2 v = some (pv e (wI t 3 i 2 v)) := pf_3_2 o.1 (i3_0 o) v
theorem f3_3 (o : o3K e i N) : zgI (pv e t) (some (pL e 3 i 0)) [1] 3 = some (qI t 3 i 3) := gf_3_3 (i3_0 o)
theorem p3_3 (o : o3K e i N) {v : Int32} (hv : v = 0 ∨ v = 1) : zpZ (pv e t) (some (pL e 3 i 0)) [1] 3 v = some (pv e (wI t 3 i 3 v)) := pf_3_3 o.1 (i3_0 o) v hv
theorem f3_4 (o : o3K e i N) : zgR (pv e t) (some (pL e 3 i 0)) [1] 4 = some (some (pL e 3 i 1)) := gf_3_4 (i3_0 o)
theorem f3_5 (o : o3K e i N) : zgR (pv e t) (some (pL e 3 i 0)) [1] 5 = some (some (pL e 3 i 2)) := gf_3_5 (i3_0 o)
theorem f3_6 (o : o3K e i N) : zgR (pv e t) (some (pL e 3 i 0)) [1] 6 = some (some (pL e 3 i 3)) := gf_3_6 (i3_0 o)
theorem f3_7 (o : o3K e i N) : zgR (pv e t) (some (pL e 3 i 0)) [1] 7 = some (some (pL e 3 i 4)) := gf_3_7 (i3_0 o)
theorem f3_8 (o : o3K e i N) : zgI (pv e t) (some (pL e 3 i 0)) [1] 8 = some (qI t 3 i 8) := gf_3_8 (i3_0 o)
theorem p3_8 (o : o3K e i N) (v : Int32) : zpI (pv e t) (some (pL e 3 i 0)) [1] 8 v = some (pv e (wI t 3 i 8 v)) := pf_3_8 o.1 (i3_0 o) v
theorem f3_9 (o : o3K e i N) : zgI (pv e t) (some (pL e 3 i 0)) [1] 9 = some (qI t 3 i 9) := gf_3_9 (i3_0 o)
theorem p3_9 (o : o3K e i N) (v : Int32) : zpI (pv e t) (some (pL e 3 i 0)) [1] 9 v = some (pv e (wI t 3 i 9 v)) := pf_3_9 o.1 (i3_0 o) v
theorem f3_10 (o : o3K e i N) : zgL (pv e t) (some (pL e 3 i 0)) [1] 10 = some (qJ t 3 i 10) := gf_3_10 (i3_0 o)
theorem p3_10 (o : o3K e i N) (v : Int64) : zpL (pv e t) (some (pL e 3 i 0)) [1] 10 v = some (pv e (wJ t 3 i 10 v)) := pf_3_10 o.1 (i3_0 o) v
theorem f3_11 (o : o3K e i N) : zgI (pv e t) (some (pL e 3 i 0)) [1] 11 = some (qI t 3 i 11) := gf_3_11 (i3_0 o)
theorem p3_11 (o : o3K e i N) (v : Int32) : zpI (pv e t) (some (pL e 3 i 0)) [1] 11 v = some (pv e (wI t 3 i 11 v)) := pf_3_11 o.1 (i3_0 o) v
theorem f3_12 (o : o3K e i N) : zgI (pv e t) (some (pL e 3 i 0)) [1] 12 = some (qI t 3 i 12) := gf_3_12 (i3_0 o)
theorem p3_12 (o : o3K e i N) {v : Int32} (hv : v = 0 ∨ v = 1) : zpZ (pv e t) (some (pL e 3 i 0)) [1] 12 v = some (pv e (wI t 3 i 12 v)) := pf_3_12 o.1 (i3_0 o) v hv
theorem fc3_0 (o : o3K e i N) : zgI (pv e t) (some (pL e 3 i 0)) [1, 2] 0 = some (qI t 3 i 0) := gfc_3_0 (i3_0 o)
theorem pc3_0 (o : o3K e i N) (v : Int32) : zpI (pv e t) (some (pL e 3 i 0)) [1, 2] 0 v = some (pv e (wI t 3 i 0 v)) := pfc_3_0 o.1 (i3_0 o) v
theorem fc3_1 (o : o3K e i N) : zgI (pv e t) (some (pL e 3 i 0)) [1, 2] 1 = some (qI t 3 i 1) := gfc_3_1 (i3_0 o)
theorem pc3_1 (o : o3K e i N) (v : Int32) : zpI (pv e t) (some (pL e 3 i 0)) [1, 2] 1 v = some (pv e (wI t 3 i 1 v)) := pfc_3_1 o.1 (i3_0 o) v
theorem fc3_2 (o : o3K e i N) : zgI (pv e t) (some (pL e 3 i 0)) [1, 2] 2 = some (qI t 3 i 2) := gfc_3_2 (i3_0 o)
theorem pc3_2 (o : o3K e i N) (v : Int32) : zpI (pv e t) (some (pL e 3 i 0)) [1, 2] 2 v = some (pv e (wI t 3 i 2 v)) := pfc_3_2 o.1 (i3_0 o) v
theorem fc3_3 (o : o3K e i N) : zgI (pv e t) (some (pL e 3 i 0)) [1, 2] 3 = some (qI t 3 i 3) := gfc_3_3 (i3_0 o)
theorem pc3_3 (o : o3K e i N) {v : Int32} (hv : v = 0 ∨ v = 1) : zpZ (pv e t) (some (pL e 3 i 0)) [1, 2] 3 v = some (pv e (wI t 3 i 3 v)) := pfc_3_3 o.1 (i3_0 o) v hv
theorem g3_1 (o : o3K e i N) {x : Nat} (hx : x < 200) : zaL (pv e t) (some (pL e 3 i 1)) 1 (nI x) = some (rJ t 3 i 1 x) := ga_3_1 (i3_1 o) (by rw [n3_1 o]; exact hx) (by rw [n3_1 o]; decide)
theorem a3_1 (o : o3K e i N) : zalen (pv e t) (some (pL e 3 i 1)) 1 = some (nI 200) := by rw [al_3_1 (i3_1 o), n3_1 o]
theorem s3_1 (o : o3K e i N) {x : Nat} (hx : x < 200) (v : Int64) : zsL (pv e t) (some (pL e 3 i 1)) 1 (nI x) v = some (pv e (uJ t 3 i 1 (vp_updL (rJ t 3 i 1) x v))) := sa_3_1 o.1 (i3_1 o) (by rw [n3_1 o]; exact hx) (by rw [n3_1 o]; decide) v
theorem g3_2 (o : o3K e i N) {x : Nat} (hx : x < 40) : zaI (pv e t) (some (pL e 3 i 2)) 0 (nI x) = some (rI t 3 i 2 x) := ga_3_2 (i3_2 o) (by rw [n3_2 o]; exact hx) (by rw [n3_2 o]; decide)
theorem a3_2 (o : o3K e i N) : zalen (pv e t) (some (pL e 3 i 2)) 0 = some (nI 40) := by rw [al_3_2 (i3_2 o), n3_2 o]
theorem s3_2 (o : o3K e i N) {x : Nat} (hx : x < 40) (v : Int32) : zsI (pv e t) (some (pL e 3 i 2)) 0 (nI x) v = some (pv e (uI t 3 i 2 (upd (rI t 3 i 2) x v))) := sa_3_2 o.1 (i3_2 o) (by rw [n3_2 o]; exact hx) (by rw [n3_2 o]; decide) v
theorem g3_3 (o : o3K e i N) {x : Nat} (hx : x < 40) : zaL (pv e t) (some (pL e 3 i 3)) 1 (nI x) = some (rJ t 3 i 3 x) := ga_3_3 (i3_3 o) (by rw [n3_3 o]; exact hx) (by rw [n3_3 o]; decide)
theorem a3_3 (o : o3K e i N) : zalen (pv e t) (some (pL e 3 i 3)) 1 = some (nI 40) := by rw [al_3_3 (i3_3 o), n3_3 o]
theorem s3_3 (o : o3K e i N) {x : Nat} (hx : x < 40) (v : Int64) : zsL (pv e t) (some (pL e 3 i 3)) 1 (nI x) v = some (pv e (uJ t 3 i 3 (vp_updL (rJ t 3 i 3) x v))) := sa_3_3 o.1 (i3_3 o) (by rw [n3_3 o]; exact hx) (by rw [n3_3 o]; decide) v
theorem g3_4 (o : o3K e i N) {x : Nat} (hx : x < 3) : zaI (pv e t) (some (pL e 3 i 4)) 0 (nI x) = some (rI t 3 i 4 x) := ga_3_4 (i3_4 o) (by rw [n3_4 o]; exact hx) (by rw [n3_4 o]; decide)
theorem z3_4 (o : o3K e i N) : zaI (pv e t) (some (pL e 3 i 4)) 0 (0 : Int32) = some (rI t 3 i 4 0) := g3_4 o (x := 0) (by decide)
theorem a3_4 (o : o3K e i N) : zalen (pv e t) (some (pL e 3 i 4)) 0 = some (nI 3) := by rw [al_3_4 (i3_4 o), n3_4 o]
theorem s3_4 (o : o3K e i N) {x : Nat} (hx : x < 3) (v : Int32) : zsI (pv e t) (some (pL e 3 i 4)) 0 (nI x) v = some (pv e (uI t 3 i 4 (upd (rI t 3 i 4) x v))) := sa_3_4 o.1 (i3_4 o) (by rw [n3_4 o]; exact hx) (by rw [n3_4 o]; decide) v
def o4K (e : pE) (i N : Nat) : Prop := oK e 4 i [0, 9, 9]
theorem i4_0 (o : o4K e i N) : pIs e 4 i 0 := o.2.1 0 (by simp)
theorem i4_1 (o : o4K e i N) : pIs e 4 i 1 := o.2.1 1 (by simp)
theorem n4_1 (o : o4K e i N) : e.2.2.2 4 i 1 = 9 := o.2.2 1 (by simp)
theorem i4_2 (o : o4K e i N) : pIs e 4 i 2 := o.2.1 2 (by simp)
theorem n4_2 (o : o4K e i N) : e.2.2.2 4 i 2 = 9 := o.2.2 2 (by simp)
theorem b4 (o : o4K e i N) : z_obj (pv e t) (some (pL e 4 i 0)) [2] = some (pL e 4 i 0, 2, pfl e 4 i (qI t 4 i) (qJ t 4 i)) := ob_4 (i4_0 o)
theorem bc4 (o : o4K e i N) : z_obj (pv e t) (some (pL e 4 i 0)) [1, 2] = some (pL e 4 i 0, 2, pfl e 4 i (qI t 4 i) (qJ t 4 i)) := obc_4 (i4_0 o)
theorem f4_0 (o : o4K e i N) : zgI (pv e t) (some (pL e 4 i 0)) [2] 0 = some (qI t 4 i 0) := gf_4_0 (i4_0 o)
theorem p4_0 (o : o4K e i N) (v : Int32) : zpI (pv e t) (some (pL e 4 i 0)) [2] 0 v = some (pv e (wI t 4 i 0 v)) := pf_4_0 o.1 (i4_0 o) v
theorem f4_1 (o : o4K e i N) : zgI (pv e t) (some (pL e 4 i 0)) [2] 1 = some (qI t 4 i 1) := gf_4_1 (i4_0 o)
theorem p4_1 (o : o4K e i N) (v : Int32) : zpI (pv e t) (some (pL e 4 i 0)) [2] 1 v = some (pv e (wI t 4 i 1 v)) := pf_4_1 o.1 (i4_0 o) v
theorem f4_2 (o : o4K e i N) : zgI (pv e t) (some (pL e 4 i 0)) [2] 2 = some (qI t 4 i 2) := gf_4_2 (i4_0 o)
theorem p4_2 (o : o4K e i N) (v : Int32) : zpI (pv e t) (some (pL e 4 i 0)) [2] 2 v = some (pv e (wI t 4 i 2 v)) := pf_4_2 o.1 (i4_0 o) v
theorem f4_3 (o : o4K e i N) : zgI (pv e t) (some (pL e 4 i 0)) [2] 3 = some (qI t 4 i 3) := gf_4_3 (i4_0 o)
theorem p4_3 (o : o4K e i N) {v : Int32} (hv : v = 0 ∨ v = 1) : zpZ (pv e t) (some (pL e 4 i 0)) [2] 3 v = some (pv e (wI t 4 i 3 v)) := pf_4_3 o.1 (i4_0 o) v hv
theorem f4_4 (o : o4K e i N) : zgR (pv e t) (some (pL e 4 i 0)) [2] 4 = some (some (pL e 4 i 1)) := gf_4_4 (i4_0 o)
theorem f4_5 (o : o4K e i N) : zgR (pv e t) (some (pL e 4 i 0)) [2] 5 = some (some (pL e 4 i 2)) := gf_4_5 (i4_0 o)
theorem f4_6 (o : o4K e i N) : zgI (pv e t) (some (pL e 4 i 0)) [2] 6 = some (qI t 4 i 6) := gf_4_6 (i4_0 o)
theorem p4_6 (o : o4K e i N) (v : Int32) : zpI (pv e t) (some (pL e 4 i 0)) [2] 6 v = some (pv e (wI t 4 i 6 v)) := pf_4_6 o.1 (i4_0 o) v
theorem fc4_0 (o : o4K e i N) : zgI (pv e t) (some (pL e 4 i 0)) [1, 2] 0 = some (qI t 4 i 0) := gfc_4_0 (i4_0 o)
theorem pc4_0 (o : o4K e i N) (v : Int32) : zpI (pv e t) (some (pL e 4 i 0)) [1, 2] 0 v = some (pv e (wI t 4 i 0 v)) := pfc_4_0 o.1 (i4_0 o) v
theorem fc4_1 (o : o4K e i N) : zgI (pv e t) (some (pL e 4 i 0)) [1, 2] 1 = some (qI t 4 i 1) := gfc_4_1 (i4_0 o)
theorem pc4_1 (o : o4K e i N) (v : Int32) : zpI (pv e t) (some (pL e 4 i 0)) [1, 2] 1 v = some (pv e (wI t 4 i 1 v)) := pfc_4_1 o.1 (i4_0 o) v
theorem fc4_2 (o : o4K e i N) : zgI (pv e t) (some (pL e 4 i 0)) [1, 2] 2 = some (qI t 4 i 2) := gfc_4_2 (i4_0 o)
theorem pc4_2 (o : o4K e i N) (v : Int32) : zpI (pv e t) (some (pL e 4 i 0)) [1, 2] 2 v = some (pv e (wI t 4 i 2 v)) := pfc_4_2 o.1 (i4_0 o) v
theorem fc4_3 (o : o4K e i N) : zgI (pv e t) (some (pL e 4 i 0)) [1, 2] 3 = some (qI t 4 i 3) := gfc_4_3 (i4_0 o)
theorem pc4_3 (o : o4K e i N) {v : Int32} (hv : v = 0 ∨ v = 1) : zpZ (pv e t) (some (pL e 4 i 0)) [1, 2] 3 v = some (pv e (wI t 4 i 3 v)) := pfc_4_3 o.1 (i4_0 o) v hv
theorem g4_1 (o : o4K e i N) {x : Nat} (hx : x < 9) : zaI (pv e t) (some (pL e 4 i 1)) 0 (nI x) = some (rI t 4 i 1 x) := ga_4_1 (i4_1 o) (by rw [n4_1 o]; exact hx) (by rw [n4_1 o]; decide)
theorem z4_1 (o : o4K e i N) : zaI (pv e t) (some (pL e 4 i 1)) 0 (0 : Int32) = some (rI t 4 i 1 0) := g4_1 o (x := 0) (by decide)
theorem a4_1 (o : o4K e i N) : zalen (pv e t) (some (pL e 4 i 1)) 0 = some (nI 9) := by rw [al_4_1 (i4_1 o), n4_1 o]
theorem s4_1 (o : o4K e i N) {x : Nat} (hx : x < 9) (v : Int32) : zsI (pv e t) (some (pL e 4 i 1)) 0 (nI x) v = some (pv e (uI t 4 i 1 (upd (rI t 4 i 1) x v))) := sa_4_1 o.1 (i4_1 o) (by rw [n4_1 o]; exact hx) (by rw [n4_1 o]; decide) v
theorem g4_2 (o : o4K e i N) {x : Nat} (hx : x < 9) : zaL (pv e t) (some (pL e 4 i 2)) 1 (nI x) = some (rJ t 4 i 2 x) := ga_4_2 (i4_2 o) (by rw [n4_2 o]; exact hx) (by rw [n4_2 o]; decide)
theorem z4_2 (o : o4K e i N) : zaL (pv e t) (some (pL e 4 i 2)) 1 (0 : Int32) = some (rJ t 4 i 2 0) := g4_2 o (x := 0) (by decide)
theorem a4_2 (o : o4K e i N) : zalen (pv e t) (some (pL e 4 i 2)) 1 = some (nI 9) := by rw [al_4_2 (i4_2 o), n4_2 o]
theorem s4_2 (o : o4K e i N) {x : Nat} (hx : x < 9) (v : Int64) : zsL (pv e t) (some (pL e 4 i 2)) 1 (nI x) v = some (pv e (uJ t 4 i 2 (vp_updL (rJ t 4 i 2) x v))) := sa_4_2 o.1 (i4_2 o) (by rw [n4_2 o]; exact hx) (by rw [n4_2 o]; decide) v
def o5K (e : pE) (i N : Nat) : Prop := oK e 5 i [0, N, N, N, N, N, N]
theorem i5_0 (o : o5K e i N) : pIs e 5 i 0 := o.2.1 0 (by simp)
theorem i5_1 (o : o5K e i N) : pIs e 5 i 1 := o.2.1 1 (by simp)
theorem n5_1 (o : o5K e i N) : e.2.2.2 5 i 1 = N := o.2.2 1 (by simp)
theorem i5_2 (o : o5K e i N) : pIs e 5 i 2 := o.2.1 2 (by simp)
theorem n5_2 (o : o5K e i N) : e.2.2.2 5 i 2 = N := o.2.2 2 (by simp)
theorem i5_3 (o : o5K e i N) : pIs e 5 i 3 := o.2.1 3 (by simp)
theorem n5_3 (o : o5K e i N) : e.2.2.2 5 i 3 = N := o.2.2 3 (by simp)
theorem i5_4 (o : o5K e i N) : pIs e 5 i 4 := o.2.1 4 (by simp)
theorem n5_4 (o : o5K e i N) : e.2.2.2 5 i 4 = N := o.2.2 4 (by simp)
theorem i5_5 (o : o5K e i N) : pIs e 5 i 5 := o.2.1 5 (by simp)
theorem n5_5 (o : o5K e i N) : e.2.2.2 5 i 5 = N := o.2.2 5 (by simp)
theorem i5_6 (o : o5K e i N) : pIs e 5 i 6 := o.2.1 6 (by simp)
theorem n5_6 (o : o5K e i N) : e.2.2.2 5 i 6 = N := o.2.2 6 (by simp)
theorem b5 (o : o5K e i N) : z_obj (pv e t) (some (pL e 5 i 0)) [3] = some (pL e 5 i 0, 3, pfl e 5 i (qI t 5 i) (qJ t 5 i)) := ob_5 (i5_0 o)
theorem f5_0 (o : o5K e i N) : zgI (pv e t) (some (pL e 5 i 0)) [3] 0 = some (qI t 5 i 0) := gf_5_0 (i5_0 o)
theorem p5_0 (o : o5K e i N) (v : Int32) : zpI (pv e t) (some (pL e 5 i 0)) [3] 0 v = some (pv e (wI t 5 i 0 v)) := pf_5_0 o.1 (i5_0 o) v
theorem f5_1 (o : o5K e i N) : zgR (pv e t) (some (pL e 5 i 0)) [3] 1 = some (some (pL e 5 i 1)) := gf_5_1 (i5_0 o)
theorem f5_2 (o : o5K e i N) : zgR (pv e t) (some (pL e 5 i 0)) [3] 2 = some (some (pL e 5 i 2)) := gf_5_2 (i5_0 o)
theorem f5_3 (o : o5K e i N) : zgR (pv e t) (some (pL e 5 i 0)) [3] 3 = some (some (pL e 5 i 3)) := gf_5_3 (i5_0 o)
theorem f5_4 (o : o5K e i N) : zgR (pv e t) (some (pL e 5 i 0)) [3] 4 = some (some (pL e 5 i 4)) := gf_5_4 (i5_0 o)
theorem f5_5 (o : o5K e i N) : zgR (pv e t) (some (pL e 5 i 0)) [3] 5 = some (some (pL e 5 i 5)) := gf_5_5 (i5_0 o)
theorem f5_6 (o : o5K e i N) : zgR (pv e t) (some (pL e 5 i 0)) [3] 6 = some (some (pL e 5 i 6)) := gf_5_6 (i5_0 o)
theorem f5_7 (o : o5K e i N) : zgI (pv e t) (some (pL e 5 i 0)) [3] 7 = some (qI t 5 i 7) := gf_5_7 (i5_0 o)
theorem p5_7 (o : o5K e i N) (v : Int32) : zpI (pv e t) (some (pL e 5 i 0)) [3] 7 v = some (pv e (wI t 5 i 7 v)) := pf_5_7 o.1 (i5_0 o) v
theorem f5_8 (o : o5K e i N) : zgI (pv e t) (some (pL e 5 i 0)) [3] 8 = some (qI t 5 i 8) := gf_5_8 (i5_0 o)
theorem p5_8 (o : o5K e i N) (v : Int32) : zpI (pv e t) (some (pL e 5 i 0)) [3] 8 v = some (pv e (wI t 5 i 8 v)) := pf_5_8 o.1 (i5_0 o) v
theorem g5_1 (o : o5K e i N) (hN : N < 2 ^ 31) {x : Nat} (hx : x < N) : zaI (pv e t) (some (pL e 5 i 1)) 2 (nI x) = some (rI t 5 i 1 x) := ga_5_1 (i5_1 o) (by rw [n5_1 o]; exact hx) (by rw [n5_1 o]; exact hN)
theorem a5_1 (o : o5K e i N) : zalen (pv e t) (some (pL e 5 i 1)) 2 = some (nI N) := by rw [al_5_1 (i5_1 o), n5_1 o]
theorem s5_1 (o : o5K e i N) (hN : N < 2 ^ 31) {x : Nat} {v : Int32} (hx : x < N) (hv : v = 0 ∨ v = 1) : zsZ (pv e t) (some (pL e 5 i 1)) 2 (nI x) v = some (pv e (uI t 5 i 1 (upd (rI t 5 i 1) x v))) := sa_5_1 o.1 (i5_1 o) (by rw [n5_1 o]; exact hx) (by rw [n5_1 o]; exact hN) v hv
theorem g5_2 (o : o5K e i N) (hN : N < 2 ^ 31) {x : Nat} (hx : x < N) : zaI (pv e t) (some (pL e 5 i 2)) 2 (nI x) = some (rI t 5 i 2 x) := ga_5_2 (i5_2 o) (by rw [n5_2 o]; exact hx) (by rw [n5_2 o]; exact hN)
theorem a5_2 (o : o5K e i N) : zalen (pv e t) (some (pL e 5 i 2)) 2 = some (nI N) := by rw [al_5_2 (i5_2 o), n5_2 o]
theorem s5_2 (o : o5K e i N) (hN : N < 2 ^ 31) {x : Nat} {v : Int32} (hx : x < N) (hv : v = 0 ∨ v = 1) : zsZ (pv e t) (some (pL e 5 i 2)) 2 (nI x) v = some (pv e (uI t 5 i 2 (upd (rI t 5 i 2) x v))) := sa_5_2 o.1 (i5_2 o) (by rw [n5_2 o]; exact hx) (by rw [n5_2 o]; exact hN) v hv
theorem g5_3 (o : o5K e i N) (hN : N < 2 ^ 31) {x : Nat} (hx : x < N) : zaI (pv e t) (some (pL e 5 i 3)) 2 (nI x) = some (rI t 5 i 3 x) := ga_5_3 (i5_3 o) (by rw [n5_3 o]; exact hx) (by rw [n5_3 o]; exact hN)
theorem a5_3 (o : o5K e i N) : zalen (pv e t) (some (pL e 5 i 3)) 2 = some (nI N) := by rw [al_5_3 (i5_3 o), n5_3 o]
theorem s5_3 (o : o5K e i N) (hN : N < 2 ^ 31) {x : Nat} {v : Int32} (hx : x < N) (hv : v = 0 ∨ v = 1) : zsZ (pv e t) (some (pL e 5 i 3)) 2 (nI x) v = some (pv e (uI t 5 i 3 (upd (rI t 5 i 3) x v))) := sa_5_3 o.1 (i5_3 o) (by rw [n5_3 o]; exact hx) (by rw [n5_3 o]; exact hN) v hv
theorem g5_4 (o : o5K e i N) (hN : N < 2 ^ 31) {x : Nat} (hx : x < N) : zaL (pv e t) (some (pL e 5 i 4)) 1 (nI x) = some (rJ t 5 i 4 x) := ga_5_4 (i5_4 o) (by rw [n5_4 o]; exact hx) (by rw [n5_4 o]; exact hN)
theorem a5_4 (o : o5K e i N) : zalen (pv e t) (some (pL e 5 i 4)) 1 = some (nI N) := by rw [al_5_4 (i5_4 o), n5_4 o]
theorem s5_4 (o : o5K e i N) (hN : N < 2 ^ 31) {x : Nat} (hx : x < N) (v : Int64) : zsL (pv e t) (some (pL e 5 i 4)) 1 (nI x) v = some (pv e (uJ t 5 i 4 (vp_updL (rJ t 5 i 4) x v))) := sa_5_4 o.1 (i5_4 o) (by rw [n5_4 o]; exact hx) (by rw [n5_4 o]; exact hN) v
theorem g5_5 (o : o5K e i N) (hN : N < 2 ^ 31) {x : Nat} (hx : x < N) : zaI (pv e t) (some (pL e 5 i 5)) 0 (nI x) = some (rI t 5 i 5 x) := ga_5_5 (i5_5 o) (by rw [n5_5 o]; exact hx) (by rw [n5_5 o]; exact hN)
theorem a5_5 (o : o5K e i N) : zalen (pv e t) (some (pL e 5 i 5)) 0 = some (nI N) := by rw [al_5_5 (i5_5 o), n5_5 o]
theorem s5_5 (o : o5K e i N) (hN : N < 2 ^ 31) {x : Nat} (hx : x < N) (v : Int32) : zsI (pv e t) (some (pL e 5 i 5)) 0 (nI x) v = some (pv e (uI t 5 i 5 (upd (rI t 5 i 5) x v))) := sa_5_5 o.1 (i5_5 o) (by rw [n5_5 o]; exact hx) (by rw [n5_5 o]; exact hN) v
theorem g5_6 (o : o5K e i N) (hN : N < 2 ^ 31) {x : Nat} (hx : x < N) : zaI (pv e t) (some (pL e 5 i 6)) 2 (nI x) = some (rI t 5 i 6 x) := ga_5_6 (i5_6 o) (by rw [n5_6 o]; exact hx) (by rw [n5_6 o]; exact hN)
theorem a5_6 (o : o5K e i N) : zalen (pv e t) (some (pL e 5 i 6)) 2 = some (nI N) := by rw [al_5_6 (i5_6 o), n5_6 o]
theorem s5_6 (o : o5K e i N) (hN : N < 2 ^ 31) {x : Nat} {v : Int32} (hx : x < N) (hv : v = 0 ∨ v = 1) : zsZ (pv e t) (some (pL e 5 i 6)) 2 (nI x) v = some (pv e (uI t 5 i 6 (upd (rI t 5 i 6) x v))) := sa_5_6 o.1 (i5_6 o) (by rw [n5_6 o]; exact hx) (by rw [n5_6 o]; exact hN) v hv
theorem cp4_1 (o : o4K e i N) {m : Nat} (hm : m < 9) : zcpI (pv e t) (some (pL e 4 i 1)) 0 (1 : Int32) (0 : Int32) (nI m) = some (pv e (uI t 4 i 1 (va_cpy (rI t 4 i 1) (rI t 4 i 1) 1 0 m))) := by
  unfold zcpI
  rw [ar_4_1 (i4_1 o), n4_1 o]
  have hc : (nI m).toNatClampNeg = m := nI_clamp (by omega)
  have h1 : (1 : Int32).toNatClampNeg = 1 := by decide
  have h0 : (0 : Int32).toNatClampNeg = 0 := by decide
  have hn : ¬ nI m < 0 := nI_nn (by omega)
  show (if (1 : Int32) < 0 ∨ (0 : Int32) < 0 ∨ nI m < 0 ∨ 9 < (1 : Int32).toNatClampNeg + (nI m).toNatClampNeg ∨ 9 < (0 : Int32).toNatClampNeg + (nI m).toNatClampNeg then none else some (z_up _ _ _)) = _
  rw [hc, h1, h0, if_neg (by
    rintro (q | q | q | q | q)
    · exact absurd q (by decide)
    · exact absurd q (by decide)
    · exact hn q
    · omega
    · omega)]
  rw [pv_up o.1 (i4_1 o) (t' := uI t 4 i 1 (va_cpy (rI t 4 i 1) (rI t 4 i 1) 1 0 m)) ?_ (fun y hy => pcell_uI y hy)]
  unfold pcell
  rw [n4_1 o]
  simp [uI, up3_eq, pty, par9, rI, rJ, rR]
theorem cp4_2 (o : o4K e i N) {m : Nat} (hm : m < 9) : zcpL (pv e t) (some (pL e 4 i 2)) 1 (1 : Int32) (0 : Int32) (nI m) = some (pv e (uJ t 4 i 2 (va_cpy (rJ t 4 i 2) (rJ t 4 i 2) 1 0 m))) := by
  unfold zcpL
  rw [ar_4_2 (i4_2 o), n4_2 o]
  have hc : (nI m).toNatClampNeg = m := nI_clamp (by omega)
  have h1 : (1 : Int32).toNatClampNeg = 1 := by decide
  have h0 : (0 : Int32).toNatClampNeg = 0 := by decide
  have hn : ¬ nI m < 0 := nI_nn (by omega)
  show (if (1 : Int32) < 0 ∨ (0 : Int32) < 0 ∨ nI m < 0 ∨ 9 < (1 : Int32).toNatClampNeg + (nI m).toNatClampNeg ∨ 9 < (0 : Int32).toNatClampNeg + (nI m).toNatClampNeg then none else some (z_up _ _ _)) = _
  rw [hc, h1, h0, if_neg (by
    rintro (q | q | q | q | q)
    · exact absurd q (by decide)
    · exact absurd q (by decide)
    · exact hn q
    · omega
    · omega)]
  rw [pv_up o.1 (i4_2 o) (t' := uJ t 4 i 2 (va_cpy (rJ t 4 i 2) (rJ t 4 i 2) 1 0 m)) ?_ (fun y hy => pcell_uJ y hy)]
  unfold pcell
  rw [n4_2 o]
  simp [uJ, up3_eq, pty, par9, rI, rJ, rR]
end PO
