/-! the constructors of marks, sources, lines, tasks, acks -/
theorem mk_ac {V : zV} {a n N t B : Nat} {o : zE} {l : List zE} {u : (Nat → Int32) ⊕ (Nat → Int64) ⊕ (Nat → UInt32) ⊕ (Nat → UInt64) ⊕ (Nat → Option Nat)} {K : Nat → zV → Nat → Option zR} {z : Int32} (hz : z = nI N) (hn : n = a + (l.length + 1)) (hN : N ≤ B) (hN2 : N < 2 ^ 31) : znwa (mkm V a (o :: l)) n t B z u K = K n (mkm V a (o :: (l ++ [.inl (t, N, u)]))) (n + 1) := by
  rw [hz]
  exact mk_a hn hN hN2
def oI : (Nat → Int32) ⊕ (Nat → Int64) ⊕ (Nat → UInt32) ⊕ (Nat → UInt64) ⊕ (Nat → Option Nat) := .inl (fun _ => 0)
def oJ : (Nat → Int32) ⊕ (Nat → Int64) ⊕ (Nat → UInt32) ⊕ (Nat → UInt64) ⊕ (Nat → Option Nat) := .inr (.inl (fun _ => 0))
def oR : (Nat → Int32) ⊕ (Nat → Int64) ⊕ (Nat → UInt32) ⊕ (Nat → UInt64) ⊕ (Nat → Option Nat) := .inr (.inr (.inr (.inr (fun _ => none))))
theorem fM_init_eq (V : zV) (a : Nat) (m : Int32) {N : Nat} (hN : N ≤ 8) : fM_init (mkm V a [.inr (3, zfs3)]) (a + 1) a m (nI N) = some (.inl none, mkm V a [.inr (3, [.int m, .ref (a + 1), .ref (a + 2), .ref (a + 3), .ref (a + 4), .ref (a + 5), .ref (a + 6), .int 0, .int 0]), .inl (2, N, oI), .inl (2, N, oI), .inl (2, N, oI), .inl (1, N, oJ), .inl (0, N, oI), .inl (2, N, oI)], a + 7) := by
  have h2 : N < 2 ^ 31 := by omega
  have hz : (if nI N < (0 : Int32) then (0 : Int32) else nI N) = nI N := if_neg (nI_nn h2)
  unfold fM_init zpI zpR
  rw [mk_p rfl (by simp [zfs0, zfs1, zfs2, zfs3, zfs4]), Option.bind_some, mk_p rfl (by simp [zfs0, zfs1, zfs2, zfs3, zfs4]), Option.bind_some, mk_ac hz (by rfl) hN h2, mk_p rfl (by simp [zfs0, zfs1, zfs2, zfs3, zfs4]), Option.bind_some, mk_ac hz (by rfl) hN h2, mk_p rfl (by simp [zfs0, zfs1, zfs2, zfs3, zfs4]), Option.bind_some, mk_ac hz (by rfl) hN h2, mk_p rfl (by simp [zfs0, zfs1, zfs2, zfs3, zfs4]), Option.bind_some, mk_ac hz (by rfl) hN h2, mk_p rfl (by simp [zfs0, zfs1, zfs2, zfs3, zfs4]), Option.bind_some, mk_ac hz (by rfl) hN h2, mk_p rfl (by simp [zfs0, zfs1, zfs2, zfs3, zfs4]), Option.bind_some, mk_ac hz (by rfl) hN h2, mk_p rfl (by simp [zfs0, zfs1, zfs2, zfs3, zfs4]), Option.bind_some]
  rfl
theorem fS_init_eq (V : zV) (a : Nat) (x : Int32) : fS_init (mkm V a [.inr (1, zfs1)]) (a + 1) a x = some (.inl none, mkm V a [.inr (1, [.int (-1), .int x, .int (-1), .int 0, .ref (a + 1), .ref (a + 2), .ref (a + 3), .ref (a + 4), .int 0, .int 0, .long 0, .int 0, .int 0]), .inl (1, 200, oJ), .inl (0, 40, oI), .inl (1, 40, oJ), .inl (0, 3, oI)], a + 5) := by
  unfold fS_init fCh_init zpI zpR zrV
  rw [mk_p rfl (by simp [zfs0, zfs1, zfs2, zfs3, zfs4]), Option.bind_some, mk_p rfl (by simp [zfs0, zfs1, zfs2, zfs3, zfs4]), Option.bind_some, mk_p rfl (by simp [zfs0, zfs1, zfs2, zfs3, zfs4]), Option.bind_some, zdV_s, mk_ac (N := 200) (by rfl) (by rfl) (by decide) (by decide), mk_p rfl (by simp [zfs0, zfs1, zfs2, zfs3, zfs4]), Option.bind_some, mk_ac (N := 40) (by rfl) (by rfl) (by decide) (by decide), mk_p rfl (by simp [zfs0, zfs1, zfs2, zfs3, zfs4]), Option.bind_some, mk_ac (N := 40) (by rfl) (by rfl) (by decide) (by decide), mk_p rfl (by simp [zfs0, zfs1, zfs2, zfs3, zfs4]), Option.bind_some, mk_ac (N := 3) (by rfl) (by rfl) (by decide) (by decide), mk_p rfl (by simp [zfs0, zfs1, zfs2, zfs3, zfs4]), Option.bind_some]
  rfl
theorem fL_init_eq (V : zV) (a : Nat) (x y : Int32) : fL_init (mkm V a [.inr (2, zfs2)]) (a + 1) a x y = some (.inl none, mkm V a [.inr (2, [.int x, .int y, .int (-1), .int 0, .ref (a + 1), .ref (a + 2), .int 0]), .inl (0, 9, oI), .inl (1, 9, oJ)], a + 3) := by
  unfold fL_init fCh_init zpI zpR zrV
  rw [mk_p rfl (by simp [zfs0, zfs1, zfs2, zfs3, zfs4]), Option.bind_some, mk_p rfl (by simp [zfs0, zfs1, zfs2, zfs3, zfs4]), Option.bind_some, mk_p rfl (by simp [zfs0, zfs1, zfs2, zfs3, zfs4]), Option.bind_some, zdV_s, mk_ac (N := 9) (by rfl) (by rfl) (by decide) (by decide), mk_p rfl (by simp [zfs0, zfs1, zfs2, zfs3, zfs4]), Option.bind_some, mk_ac (N := 9) (by rfl) (by rfl) (by decide) (by decide), mk_p rfl (by simp [zfs0, zfs1, zfs2, zfs3, zfs4]), Option.bind_some]
  rfl
theorem fT_init_eq (V : zV) (a : Nat) (x : Int32) : fT_init (mkm V a [.inr (4, zfs4)]) (a + 1) a x = some (.inl none, mkm V a [.inr (4, [.int x, .ref (a + 1), .ref (a + 2), .int 0, .int 0, .int 0, .long 0, .int 0, .int 0]), .inl (4, 16, oR), .inl (5, 16, oR)], a + 3) := by
  unfold fT_init zpI zpR
  rw [mk_ac (N := 16) (by rfl) (by rfl) (by decide) (by decide), mk_p rfl (by simp [zfs0, zfs1, zfs2, zfs3, zfs4]), Option.bind_some, mk_ac (N := 16) (by rfl) (by rfl) (by decide) (by decide), mk_p rfl (by simp [zfs0, zfs1, zfs2, zfs3, zfs4]), Option.bind_some, mk_p rfl (by simp [zfs0, zfs1, zfs2, zfs3, zfs4]), Option.bind_some]
  rfl
theorem fK_init_eq (V : zV) (a : Nat) : fK_init (mkm V a [.inr (0, zfs0)]) (a + 1) a = some (.inl none, mkm V a [.inr (0, [.ref (a + 1), .ref (a + 2), .int 0, .int 0]), .inl (0, 520, oI), .inl (0, 520, oI)], a + 3) := by
  unfold fK_init zpR
  rw [mk_ac (N := 520) (by rfl) (by rfl) (by decide) (by decide), mk_p rfl (by simp [zfs0, zfs1, zfs2, zfs3, zfs4]), Option.bind_some, mk_ac (N := 520) (by rfl) (by rfl) (by decide) (by decide), mk_p rfl (by simp [zfs0, zfs1, zfs2, zfs3, zfs4]), Option.bind_some]
  rfl
