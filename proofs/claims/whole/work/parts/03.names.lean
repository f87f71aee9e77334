/-! CLASSES OF THE WORLD, their fields (declarer, name, descriptor, final), the tags of arrays; zTs: the words that hold wherever the tables do -/
def zTs : List Cond := lw_tbl.filter goodWord
theorem zTs_in : ∀ w ∈ zTs, w ∈ lw_tbl := fun _ h => (List.mem_filter.mp h).1
theorem zTs_good : GoodIn zTs zTs := fun w h => ⟨h, good_of_word (List.mem_filter.mp h).2⟩
theorem zm {l : List Cond} {w : Cond} (i : Nat) (hl : ∀ v ∈ l, v ∈ tables_1) (h : l[i]? = some w) (g : goodWord w = true) : w ∈ zTs := List.mem_filter.mpr ⟨List.mem_append_right _ (hl w (List.mem_of_getElem? h)), g⟩
theorem zmp {w : Cond} (h : w ∈ k2_sels lw_privs) (g : goodWord w = true) : w ∈ zTs := List.mem_filter.mpr ⟨List.mem_append_left _ h, g⟩
theorem zq1 : ∀ v ∈ tables_1_1, v ∈ tables_1 := fun _ h => List.mem_append_left _ h
theorem zq2 : ∀ v ∈ tables_1_2, v ∈ tables_1 := fun _ h => List.mem_append_right _ (List.mem_append_left _ h)
theorem zq3 : ∀ v ∈ tables_1_3, v ∈ tables_1 := fun _ h => List.mem_append_right _ (List.mem_append_right _ (List.mem_append_left _ h))
theorem zq4 : ∀ v ∈ tables_1_4, v ∈ tables_1 := fun _ h => List.mem_append_right _ (List.mem_append_right _ (List.mem_append_right _ (List.mem_append_left _ h)))
theorem zq5 : ∀ v ∈ tables_1_5, v ∈ tables_1 := fun _ h => List.mem_append_right _ (List.mem_append_right _ (List.mem_append_right _ (List.mem_append_right _ h)))
def zC0 : String := "BarrierMarks$AckRow"
def zT0 : u_T := fun k => match k with
  | 0 => ("BarrierMarks$AckRow", "markOf", "[I", true)
  | 1 => ("BarrierMarks$AckRow", "taskOf", "[I", true)
  | 2 => ("BarrierMarks$AckRow", "first", "I", false)
  | _ => ("BarrierMarks$AckRow", "size", "I", false)
def zty0 : Nat → FieldType := fun k => match k with
  | 0 => (.array .int)
  | 1 => (.array .int)
  | 2 => .int
  | _ => .int
def zfs0 : List Value := [.null, .null, .int 0, .int 0]
def zC1 : String := "BarrierMarks$Source"
def zT1 : u_T := fun k => match k with
  | 0 => ("BarrierMarks$Channel", "from", "I", true)
  | 1 => ("BarrierMarks$Channel", "to", "I", true)
  | 2 => ("BarrierMarks$Channel", "heldFor", "I", false)
  | 3 => ("BarrierMarks$Channel", "ended", "Z", false)
  | 4 => ("BarrierMarks$Source", "log", "[J", true)
  | 5 => ("BarrierMarks$Source", "rowsAhead", "[I", true)
  | 6 => ("BarrierMarks$Source", "sumsAhead", "[J", true)
  | 7 => ("BarrierMarks$Source", "due", "[I", true)
  | 8 => ("BarrierMarks$Source", "dueCount", "I", false)
  | 9 => ("BarrierMarks$Source", "logged", "I", false)
  | 10 => ("BarrierMarks$Source", "loggedSum", "J", false)
  | 11 => ("BarrierMarks$Source", "stands", "I", false)
  | _ => ("BarrierMarks$Source", "finished", "Z", false)
def zty1 : Nat → FieldType := fun k => match k with
  | 0 => .int
  | 1 => .int
  | 2 => .int
  | 3 => .boolean
  | 4 => (.array .long)
  | 5 => (.array .int)
  | 6 => (.array .long)
  | 7 => (.array .int)
  | 8 => .int
  | 9 => .int
  | 10 => .long
  | 11 => .int
  | _ => .boolean
def zfs1 : List Value := [.int 0, .int 0, .int 0, .int 0, .null, .null, .null, .null, .int 0, .int 0, .long 0, .int 0, .int 0]
def zC2 : String := "BarrierMarks$Line"
def zT2 : u_T := fun k => match k with
  | 0 => ("BarrierMarks$Channel", "from", "I", true)
  | 1 => ("BarrierMarks$Channel", "to", "I", true)
  | 2 => ("BarrierMarks$Channel", "heldFor", "I", false)
  | 3 => ("BarrierMarks$Channel", "ended", "Z", false)
  | 4 => ("BarrierMarks$Line", "kinds", "[I", true)
  | 5 => ("BarrierMarks$Line", "values", "[J", true)
  | _ => ("BarrierMarks$Line", "size", "I", false)
def zty2 : Nat → FieldType := fun k => match k with
  | 0 => .int
  | 1 => .int
  | 2 => .int
  | 3 => .boolean
  | 4 => (.array .int)
  | 5 => (.array .long)
  | _ => .int
def zfs2 : List Value := [.int 0, .int 0, .int 0, .int 0, .null, .null, .int 0]
def zC3 : String := "BarrierMarks$Mark"
def zT3 : u_T := fun k => match k with
  | 0 => ("BarrierMarks$Mark", "number", "I", true)
  | 1 => ("BarrierMarks$Mark", "kept", "[Z", true)
  | 2 => ("BarrierMarks$Mark", "failing", "[Z", true)
  | 3 => ("BarrierMarks$Mark", "acked", "[Z", true)
  | 4 => ("BarrierMarks$Mark", "sums", "[J", true)
  | 5 => ("BarrierMarks$Mark", "rows", "[I", true)
  | 6 => ("BarrierMarks$Mark", "ended", "[Z", true)
  | 7 => ("BarrierMarks$Mark", "ackedCount", "I", false)
  | _ => ("BarrierMarks$Mark", "condition", "I", false)
def zty3 : Nat → FieldType := fun k => match k with
  | 0 => .int
  | 1 => (.array .boolean)
  | 2 => (.array .boolean)
  | 3 => (.array .boolean)
  | 4 => (.array .long)
  | 5 => (.array .int)
  | 6 => (.array .boolean)
  | 7 => .int
  | _ => .int
def zfs3 : List Value := [.int 0, .null, .null, .null, .null, .null, .null, .int 0, .int 0]
def zC4 : String := "BarrierMarks$Task"
def zT4 : u_T := fun k => match k with
  | 0 => ("BarrierMarks$Task", "number", "I", true)
  | 1 => ("BarrierMarks$Task", "into", "[LBarrierMarks$Channel;", true)
  | 2 => ("BarrierMarks$Task", "out", "[LBarrierMarks$Line;", true)
  | 3 => ("BarrierMarks$Task", "intoCount", "I", false)
  | 4 => ("BarrierMarks$Task", "outCount", "I", false)
  | 5 => ("BarrierMarks$Task", "lookFrom", "I", false)
  | 6 => ("BarrierMarks$Task", "sum", "J", false)
  | 7 => ("BarrierMarks$Task", "rows", "I", false)
  | _ => ("BarrierMarks$Task", "ended", "Z", false)
def zty4 : Nat → FieldType := fun k => match k with
  | 0 => .int
  | 1 => (.array (.object "BarrierMarks$Channel"))
  | 2 => (.array (.object "BarrierMarks$Line"))
  | 3 => .int
  | 4 => .int
  | 5 => .int
  | 6 => .long
  | 7 => .int
  | _ => .boolean
def zfs4 : List Value := [.int 0, .null, .null, .int 0, .int 0, .int 0, .long 0, .int 0, .int 0]
def zC5 : String := "BarrierMarks"
def zT5 : u_T := fun k => match k with
  | 0 => ("BarrierMarks", "tasks", "[LBarrierMarks$Task;", true)
  | 1 => ("BarrierMarks", "channels", "[LBarrierMarks$Channel;", true)
  | 2 => ("BarrierMarks", "marks", "[LBarrierMarks$Mark;", true)
  | 3 => ("BarrierMarks", "acks", "LBarrierMarks$AckRow;", true)
  | 4 => ("BarrierMarks", "carriedSums", "[J", true)
  | 5 => ("BarrierMarks", "carriedRows", "[I", true)
  | 6 => ("BarrierMarks", "channelCount", "I", false)
  | 7 => ("BarrierMarks", "markCount", "I", false)
  | 8 => ("BarrierMarks", "begunCount", "I", false)
  | _ => ("BarrierMarks", "started", "Z", false)
def zty5 : Nat → FieldType := fun k => match k with
  | 0 => (.array (.object "BarrierMarks$Task"))
  | 1 => (.array (.object "BarrierMarks$Channel"))
  | 2 => (.array (.object "BarrierMarks$Mark"))
  | 3 => .object "BarrierMarks$AckRow"
  | 4 => (.array .long)
  | 5 => (.array .int)
  | 6 => .int
  | 7 => .int
  | 8 => .int
  | _ => .boolean
def zfs5 : List Value := [.null, .null, .null, .null, .null, .null, .int 0, .int 0, .int 0, .int 0]
def zC6 : String := "BarrierMarksModel"
def zT6 : u_T := fun k => match k with
  | 0 => ("BarrierMarksModel", "n", "I", true)
  | 1 => ("BarrierMarksModel", "code", "I", false)
  | 2 => ("BarrierMarksModel", "told", "Z", false)
  | 3 => ("BarrierMarksModel", "sum", "[J", true)
  | 4 => ("BarrierMarksModel", "rows", "[I", true)
  | 5 => ("BarrierMarksModel", "ended", "[Z", true)
  | 6 => ("BarrierMarksModel", "latest", "[I", true)
  | 7 => ("BarrierMarksModel", "channels", "I", false)
  | 8 => ("BarrierMarksModel", "from", "[I", true)
  | 9 => ("BarrierMarksModel", "to", "[I", true)
  | 10 => ("BarrierMarksModel", "kinds", "[I", true)
  | 11 => ("BarrierMarksModel", "values", "[J", true)
  | 12 => ("BarrierMarksModel", "things", "[I", true)
  | 13 => ("BarrierMarksModel", "log", "[J", true)
  | 14 => ("BarrierMarksModel", "logged", "[I", true)
  | 15 => ("BarrierMarksModel", "finished", "[Z", true)
  | 16 => ("BarrierMarksModel", "stand", "[I", true)
  | 17 => ("BarrierMarksModel", "over", "[Z", true)
  | 18 => ("BarrierMarksModel", "held", "[I", true)
  | 19 => ("BarrierMarksModel", "marks", "I", false)
  | 20 => ("BarrierMarksModel", "condition", "[I", true)
  | 21 => ("BarrierMarksModel", "position", "[I", true)
  | 22 => ("BarrierMarksModel", "came", "[Z", true)
  | 23 => ("BarrierMarksModel", "kept", "[Z", true)
  | 24 => ("BarrierMarksModel", "keptEnded", "[Z", true)
  | 25 => ("BarrierMarksModel", "keptSum", "[J", true)
  | 26 => ("BarrierMarksModel", "keptRows", "[I", true)
  | 27 => ("BarrierMarksModel", "fails", "[Z", true)
  | 28 => ("BarrierMarksModel", "taken", "[Z", true)
  | 29 => ("BarrierMarksModel", "acks", "I", false)
  | 30 => ("BarrierMarksModel", "ackMark", "[I", true)
  | 31 => ("BarrierMarksModel", "ackTask", "[I", true)
  | 32 => ("BarrierMarksModel", "allSum", "[J", true)
  | _ => ("BarrierMarksModel", "allRows", "[J", true)
def zty6 : Nat → FieldType := fun k => match k with
  | 0 => .int
  | 1 => .int
  | 2 => .boolean
  | 3 => (.array .long)
  | 4 => (.array .int)
  | 5 => (.array .boolean)
  | 6 => (.array .int)
  | 7 => .int
  | 8 => (.array .int)
  | 9 => (.array .int)
  | 10 => (.array .int)
  | 11 => (.array .long)
  | 12 => (.array .int)
  | 13 => (.array .long)
  | 14 => (.array .int)
  | 15 => (.array .boolean)
  | 16 => (.array .int)
  | 17 => (.array .boolean)
  | 18 => (.array .int)
  | 19 => .int
  | 20 => (.array .int)
  | 21 => (.array .int)
  | 22 => (.array .boolean)
  | 23 => (.array .boolean)
  | 24 => (.array .boolean)
  | 25 => (.array .long)
  | 26 => (.array .int)
  | 27 => (.array .boolean)
  | 28 => (.array .boolean)
  | 29 => .int
  | 30 => (.array .int)
  | 31 => (.array .int)
  | 32 => (.array .long)
  | _ => (.array .long)
def zfs6 : List Value := [.int 0, .int 0, .int 0, .null, .null, .null, .null, .int 0, .null, .null, .null, .null, .null, .null, .null, .null, .null, .null, .null, .int 0, .null, .null, .null, .null, .null, .null, .null, .null, .null, .int 0, .null, .null, .null, .null]
def zcl : List vw_C := [(zC0, zT0, 4), (zC1, zT1, 13), (zC2, zT2, 7), (zC3, zT3, 9), (zC4, zT4, 9), (zC5, zT5, 10), (zC6, zT6, 34)]
def ztl : List FieldType := [.int, .long, .boolean, .object "BarrierMarks$Task", .object "BarrierMarks$Channel", .object "BarrierMarks$Line", .object "BarrierMarks$Mark"]
theorem zn0 : ∀ a, a < 4 → ∀ b, b < 4 → a ≠ b → (zT0 a).2.1 ≠ (zT0 b).2.1 := by decide +kernel
theorem zt0 : ∀ k, k < 4 → parseFieldDescriptor (zT0 k).2.2.1 = some (zty0 k) := by decide +kernel
theorem zi0 : ∀ w ∈ u_ws zC0 zT0 4, w ∈ zTs := by decide +kernel
theorem zd0 : ∀ j, j < 4 → defaultValue (zty0 j) = vp_V zfs0 j := by decide +kernel
theorem zn1 : ∀ a, a < 13 → ∀ b, b < 13 → a ≠ b → (zT1 a).2.1 ≠ (zT1 b).2.1 := by decide +kernel
theorem zt1 : ∀ k, k < 13 → parseFieldDescriptor (zT1 k).2.2.1 = some (zty1 k) := by decide +kernel
theorem zi1 : ∀ w ∈ u_ws zC1 zT1 13, w ∈ zTs := by decide +kernel
theorem zd1 : ∀ j, j < 13 → defaultValue (zty1 j) = vp_V zfs1 j := by decide +kernel
theorem zn2 : ∀ a, a < 7 → ∀ b, b < 7 → a ≠ b → (zT2 a).2.1 ≠ (zT2 b).2.1 := by decide +kernel
theorem zt2 : ∀ k, k < 7 → parseFieldDescriptor (zT2 k).2.2.1 = some (zty2 k) := by decide +kernel
theorem zi2 : ∀ w ∈ u_ws zC2 zT2 7, w ∈ zTs := by decide +kernel
theorem zd2 : ∀ j, j < 7 → defaultValue (zty2 j) = vp_V zfs2 j := by decide +kernel
theorem zn3 : ∀ a, a < 9 → ∀ b, b < 9 → a ≠ b → (zT3 a).2.1 ≠ (zT3 b).2.1 := by decide +kernel
theorem zt3 : ∀ k, k < 9 → parseFieldDescriptor (zT3 k).2.2.1 = some (zty3 k) := by decide +kernel
theorem zi3 : ∀ w ∈ u_ws zC3 zT3 9, w ∈ zTs := by decide +kernel
theorem zd3 : ∀ j, j < 9 → defaultValue (zty3 j) = vp_V zfs3 j := by decide +kernel
theorem zn4 : ∀ a, a < 9 → ∀ b, b < 9 → a ≠ b → (zT4 a).2.1 ≠ (zT4 b).2.1 := by decide +kernel
theorem zt4 : ∀ k, k < 9 → parseFieldDescriptor (zT4 k).2.2.1 = some (zty4 k) := by decide +kernel
theorem zi4 : ∀ w ∈ u_ws zC4 zT4 9, w ∈ zTs := by decide +kernel
theorem zd4 : ∀ j, j < 9 → defaultValue (zty4 j) = vp_V zfs4 j := by decide +kernel
theorem zn5 : ∀ a, a < 10 → ∀ b, b < 10 → a ≠ b → (zT5 a).2.1 ≠ (zT5 b).2.1 := by decide +kernel
theorem zt5 : ∀ k, k < 10 → parseFieldDescriptor (zT5 k).2.2.1 = some (zty5 k) := by decide +kernel
theorem zi5 : ∀ w ∈ u_ws zC5 zT5 10, w ∈ zTs := by decide +kernel
theorem zd5 : ∀ j, j < 10 → defaultValue (zty5 j) = vp_V zfs5 j := by decide +kernel
theorem zn6 : ∀ a, a < 34 → ∀ b, b < 34 → a ≠ b → (zT6 a).2.1 ≠ (zT6 b).2.1 := by decide +kernel
theorem zt6 : ∀ k, k < 34 → parseFieldDescriptor (zT6 k).2.2.1 = some (zty6 k) := by decide +kernel
theorem zi6 : ∀ w ∈ u_ws zC6 zT6 34, w ∈ zTs := by decide +kernel
theorem zd6 : ∀ j, j < 34 → defaultValue (zty6 j) = vp_V zfs6 j := by decide +kernel
