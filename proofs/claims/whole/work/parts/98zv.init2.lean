/-! the class's constructor -/
section PB
variable {a N : Nat}
theorem tI_s (a K : Nat) : tI a (K + 1) = uR (tI a K) 0 0 1 (va_up (rkI a K) K (some (a + 7 + 3 * K))) := by
  have h1 : rkI a (K + 1) = va_up (rkI a K) K (some (a + 7 + 3 * K)) := by
    funext x
    rw [va_up_fu]
    unfold fu rkI
    by_cases q : x = K
    · rw [if_pos q, if_pos (by omega), q]
    · rw [if_neg q]
      by_cases r : x < K
      · rw [if_pos r, if_pos (by omega)]
      · rw [if_neg r, if_neg (by omega)]
  have h2 : (fun (k i s : Nat) => if k = 0 ∧ i = 0 ∧ s = 1 then rkI a (K + 1) else fun _ => none) = up3 (fun (k i s : Nat) => if k = 0 ∧ i = 0 ∧ s = 1 then rkI a K else fun _ => none) 0 0 1 (va_up (rkI a K) K (some (a + 7 + 3 * K))) := by
    funext k i s
    unfold up3
    by_cases q : k = 0 ∧ i = 0 ∧ s = 1
    · rw [if_pos q, if_pos q, h1]
    · rw [if_neg q, if_neg q]
      exact (if_neg q).symm
  unfold tI uR
  rw [h2]
theorem tI_r (a K : Nat) : rR (tI a K) 0 0 1 = rkI a K := rfl
theorem pv_ne {e : pE} {t : pS} {k i s b : Nat} {v : Nat → Option Nat} (ho : pOk e) (hb : b ≠ pL e k i s) : pv e (uR t k i s v) b = pv e t b := by
  unfold pv
  cases hN : e.2.2.1 b with
  | none => rfl
  | some y =>
    have hy : y ≠ (k, i, s) := fun q => hb (by rw [ho b y hN, q]; rfl)
    show some (pcell e (uR t k i s v) y) = some (pcell e t y)
    rw [pcell_uR y hy]
theorem cel6 {K : Nat} : pv (eI a N) (tI a K) (a + 6) = some (.inl (3, N, .inr (.inr (.inr (.inr (rkI a K)))))) := by
  rw [pvI nm6]
  rfl
theorem cel7 {x K : Nat} (hx : x < N) : pv (eI a N) (tI a K) (a + 7 + 3 * x) = some (.inr (4, [.int (nI x), .ref (a + 7 + 3 * x + 1), .ref (a + 7 + 3 * x + 2), .int 0, .int 0, .int 0, .long 0, .int 0, .int 0])) := by
  refine (pvI (nm7 (j := 0) hx (by omega))).trans ?_
  rfl
theorem cel71 {x K : Nat} (hx : x < N) : pv (eI a N) (tI a K) (a + 7 + 3 * x + 1) = some (.inl (4, 16, oR)) := by
  rw [pvI (nm7 (j := 1) hx (by omega))]
  rfl
theorem cel72 {x K : Nat} (hx : x < N) : pv (eI a N) (tI a K) (a + 7 + 3 * x + 2) = some (.inl (5, 16, oR)) := by
  rw [pvI (nm7 (j := 2) hx (by omega))]
  rfl
theorem Qt_s {K : Nat} {o : zE} (hK : K < N) (hN : N ≤ 8) : zsR (Qt (eI a N) (tI a K) a (a + 7 + 3 * K + 3) o) (some (a + 6)) 3 [4] (nI K) (some (a + 7 + 3 * K)) = some (Qt (eI a N) (tI a (K + 1)) a (a + 7 + 3 * (K + 1)) o) := by
  have h1 : Qt (eI a N) (tI a K) a (a + 7 + 3 * K + 3) o (a + 7 + 3 * K) = some (.inr (4, [.int (nI K), .ref (a + 7 + 3 * K + 1), .ref (a + 7 + 3 * K + 2), .int 0, .int 0, .int 0, .long 0, .int 0, .int 0])) := by
    unfold Qt
    rw [if_neg (by omega), if_pos (by omega), cel7 hK]
  have h2 : Qt (eI a N) (tI a K) a (a + 7 + 3 * K + 3) o (a + 6) = some (.inl (3, N, .inr (.inr (.inr (.inr (rkI a K)))))) := by
    unfold Qt
    rw [if_neg (by omega), if_pos (by omega), cel6]
  have e1 : z_obj (Qt (eI a N) (tI a K) a (a + 7 + 3 * K + 3) o) (some (a + 7 + 3 * K)) [4] = some (a + 7 + 3 * K, 4, [.int (nI K), .ref (a + 7 + 3 * K + 1), .ref (a + 7 + 3 * K + 2), .int 0, .int 0, .int 0, .long 0, .int 0, .int 0]) := by
    unfold z_obj
    rw [Option.bind_some, h1]
    rfl
  have e2 : z_arr (Qt (eI a N) (tI a K) a (a + 7 + 3 * K + 3) o) (some (a + 6)) 3 = some (a + 6, N, .inr (.inr (.inr (.inr (rkI a K))))) := by
    unfold z_arr
    rw [Option.bind_some, h2]
    rfl
  unfold zsR
  rw [e1, Option.bind_some, e2, Option.bind_some]
  show (if nI K < 0 ∨ N ≤ (nI K).toNatClampNeg then none else some (z_up (Qt (eI a N) (tI a K) a (a + 7 + 3 * K + 3) o) (a + 6) (.inl (3, N, .inr (.inr (.inr (.inr (va_up (rkI a K) (nI K).toNatClampNeg (some (a + 7 + 3 * K)))))))))) = _
  rw [if_neg (nI_in hK (by omega)), nI_clamp (by omega)]
  congr 1
  funext b
  rw [tI_s]
  unfold z_up Qt
  by_cases q : b = a + 6
  · rw [if_pos q, if_neg (by omega), if_pos (by omega), q, pvI nm6]
    rfl
  · rw [if_neg q]
    by_cases r : b = a
    · rw [if_pos r, if_pos r]
    · rw [if_neg r, if_neg r]
      have h3 : pv (eI a N) (uR (tI a K) 0 0 1 (va_up (rkI a K) K (some (a + 7 + 3 * K)))) b = pv (eI a N) (tI a K) b := pv_ne okI q
      rw [h3, show a + 7 + 3 * (K + 1) = a + 7 + 3 * K + 3 by omega]
def fs5 (a : Nat) (x y : Value) : List Value := [.ref (a + 6), .ref (a + 1), .ref (a + 2), .ref (a + 3), x, y, .int 0, .int 0, .int 0, .int 0]
theorem fB_init_54_eq (hN : N ≤ 8) : ∀ (d K f : Nat), K + d = N → d < f → fB_init_54 f (Qt (eI a N) (tI a K) a (a + 7 + 3 * K) (.inr (5, fs5 a .null .null))) (a + 7 + 3 * K) a (nI N) (nI K) = some (.inl none, Qt (eI a N) (tI a N) a (a + 7 + 3 * N + 2) (.inr (5, fs5 a (.ref (a + 7 + 3 * N)) (.ref (a + 7 + 3 * N + 1)))), a + 7 + 3 * N + 2) := by
  intro d
  induction d with
  | zero =>
    intro K f hK hf
    obtain ⟨f, rfl⟩ : ∃ g, f = g + 1 := ⟨f - 1, by omega⟩
    obtain rfl : K = N := by omega
    unfold fB_init_54
    have c8 : pv (eI a K) (tI a K) (a + 7 + 3 * K) = some (.inl (1, K, .inr (.inl (fun _ => 0)))) := by
      rw [pvI nm8]
      rfl
    have c9 : pv (eI a K) (tI a K) (a + 7 + 3 * K + 1) = some (.inl (0, K, .inl (fun _ => 0))) := by
      rw [pvI nm9]
      rfl
    rw [if_pos (Int32.le_refl _), Qt_np c8 (by omega) rfl hN (by omega) (by show 4 < 10; omega), Qt_np c9 (by omega) rfl hN (by omega) (by show 5 < 10; omega)]
    rfl
  | succ d ih =>
    intro K f hK hf
    obtain ⟨f, rfl⟩ : ∃ g, f = g + 1 := ⟨f - 1, by omega⟩
    have hKN : K < N := by omega
    rw [← ih (K + 1) f (by omega) (by omega)]
    generalize hR : fB_init_54 f = R
    unfold fB_init_54
    rw [hR, if_neg (by rw [nI_leI (by omega) (by omega)]; omega)]
    have hz : zgR (Qt (eI a N) (tI a K) a (a + 7 + 3 * K) (.inr (5, fs5 a .null .null))) (some a) [5] 0 = some (some (a + 6)) := by
      unfold zgR
      rw [Qt_obj]
      rfl
    rw [hz, Option.bind_some]
    unfold znw
    dsimp only
    rw [mkm_new, fT_init_eq, zdV_s, Qt_mk (fun j hj => ?_) (by omega)]
    · show ((zsR (Qt (eI a N) (tI a K) a (a + 7 + 3 * K + 3) (.inr (5, fs5 a .null .null))) (some (a + 6)) 3 [4] (nI K) (some (a + 7 + 3 * K))).bind fun V => R V (a + 7 + 3 * K + 3) a (nI N) (nI K + 1)) = _
      rw [Qt_s hKN hN, Option.bind_some, nI_1, show a + 7 + 3 * (K + 1) = a + 7 + 3 * K + 3 by omega]
    · rcases (show j = 0 ∨ j = 1 ∨ j = 2 by
        have : j < 3 := hj
        omega) with rfl | rfl | rfl
      · exact cel7 hKN
      · exact cel71 hKN
      · exact cel72 hKN
/-- the number of tasks -/
theorem cnt_of (x : Int32) : ∃ N, 1 ≤ N ∧ N ≤ 8 ∧ (if (1 : Int32) < (if (8 : Int32) < x then (8 : Int32) else x) then (if (8 : Int32) < x then (8 : Int32) else x) else (1 : Int32)) = nI N ∧ ∀ (F : Int32 → Option zR), (if (1 : Int32) ≤ x then (if x ≤ (8 : Int32) then F x else F (8 : Int32)) else F (1 : Int32)) = F (nI N) := by
  by_cases h8 : (8 : Int32) < x
  · refine ⟨8, by omega, by omega, ?_, fun F => ?_⟩
    · rw [if_pos h8, if_pos (by decide)]; rfl
    · rw [if_pos (Int32.le_of_lt (Int32.lt_of_lt_of_le (by decide) (Int32.le_of_lt h8))), if_neg (Int32.not_le.mpr h8)]; rfl
  · rw [if_neg h8]
    by_cases h1 : (1 : Int32) < x
    · obtain ⟨j, hj, rfl⟩ := nI_of (x := x) (fun z => Int32.lt_irrefl (Int32.lt_of_lt_of_le (Int32.lt_trans h1 z) (by decide)))
      have h8' : j ≤ 8 := by
        have : ¬ nI 8 < nI j := h8
        rw [nI_ltI (by decide) hj] at this
        omega
      have h1' : 1 < j := by
        have : nI 1 < nI j := h1
        rw [nI_ltI (by decide) hj] at this
        exact this
      refine ⟨j, by omega, h8', by rw [if_pos h1], fun F => ?_⟩
      rw [if_pos (Int32.le_of_lt h1), if_pos (Int32.not_lt.mp h8)]
    · refine ⟨1, by omega, by omega, by rw [if_neg h1]; rfl, fun F => ?_⟩
      by_cases h2 : (1 : Int32) ≤ x
      · have hx : x = 1 := Int32.le_antisymm (Int32.not_lt.mp h1) h2
        rw [hx]; rfl
      · rw [if_neg h2]; rfl
theorem fB_init_eq {x : Int32} (h1 : 1 ≤ N) (h8 : N ≤ 8) (hx : (if (1 : Int32) < (if (8 : Int32) < x then (8 : Int32) else x) then (if (8 : Int32) < x then (8 : Int32) else x) else (1 : Int32)) = nI N) : fB_init (z_up (fun _ => none) a (.inr (5, zfs5))) (a + 1) a x = some (.inl none, (fun b => if b < a + 7 + 3 * N + 2 then pv (eI a N) (tI a N) b else none), a + 7 + 3 * N + 2) := by
  have h0 : (fun _ => none : zV) = fun b => if b < a then pv (eI a N) (tI a 0) b else none := by
    funext b
    by_cases q : b < a
    · rw [if_pos q, pvN (nmL q)]
    · rw [if_neg q]
  have c1 : pv (eI a N) (tI a 0) (a + 1) = some (.inl (4, 16, .inr (.inr (.inr (.inr (fun _ => none)))))) := by
    rw [pvI nm1]
    rfl
  have c2 : pv (eI a N) (tI a 0) (a + 1 + 1) = some (.inl (6, 40, .inr (.inr (.inr (.inr (fun _ => none)))))) := by
    rw [show a + 1 + 1 = a + 2 from rfl, pvI nm2]
    rfl
  have c6 : pv (eI a N) (tI a 0) (a + 1 + 1 + 1 + 3) = some (.inl (3, N, .inr (.inr (.inr (.inr (fun _ => none)))))) := by
    rw [show a + 1 + 1 + 1 + 3 = a + 6 from rfl, cel6]
    have : rkI a 0 = fun _ => none := by
      funext x
      unfold rkI
      rw [if_neg (by omega)]
    rw [this]
  have hlast := fB_init_54_eq (a := a) (N := N) h8 N 0 9 (by omega) (by omega)
  rw [h0, Qt_start]
  unfold fB_init
  rw [hx]
  generalize fB_init_54 9 = R at hlast ⊢
  rw [Qt_np c1 (by omega) (show (16 : Int32) = nI 16 from rfl) (by omega) (by omega) (by show 1 < 10; omega), Qt_np c2 (by omega) (show (40 : Int32) = nI 40 from rfl) (by omega) (by omega) (by show 2 < 10; omega)]
  unfold znw
  dsimp only
  rw [mkm_new, fK_init_eq, zdV_s, Qt_mk (fun j hj => ?_) (by omega)]
  · rw [Qt_p (by show 3 < 10; omega), Option.bind_some]
    show (znwa (Qt (eI a N) (tI a 0) a (a + 1 + 1 + 1 + 3) (.inr (5, _))) (a + 1 + 1 + 1 + 3) 3 8 (nI N) (.inr (.inr (.inr (.inr (fun _ => none))))) fun t4 V n => (zpR V (some a) [5] 0 (some t4)).bind fun V => R V n a (nI N) 0) = _
    rw [Qt_np c6 (by omega) rfl h8 (by omega) (by show 0 < 10; omega)]
    have hl2 : R (Qt (eI a N) (tI a 0) a (a + 7) (.inr (5, fs5 a .null .null))) (a + 7) a (nI N) 0 = _ := hlast
    refine Eq.trans hl2 ?_
    rw [Qt_end ?_ (by omega)]
    rw [pvI nm0]
    rfl
  · rcases (show j = 0 ∨ j = 1 ∨ j = 2 by
      have : j < 3 := hj
      omega) with rfl | rfl | rfl
    · refine (pvI (nm3 (j := 0) (by omega))).trans ?_
      rfl
    · refine (pvI (nm3 (j := 1) (by omega))).trans ?_
      rfl
    · refine (pvI (nm3 (j := 2) (by omega))).trans ?_
      rfl
end PB
