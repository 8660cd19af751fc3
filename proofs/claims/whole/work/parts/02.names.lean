/-! names: the classes, their fields in the order of the slots, the methods; written by program out of the claim -/
abbrev zRead : String := "SlicedReads$Read"
def zT0 : u_T := fun k => match k with
  | 0 => ("SlicedReads$Archive", "bytes", "[I", true)
  | _ => ("SlicedReads$Archive", "count", "I", false)
def zt0 : Nat → FieldType := fun k => match k with
  | 0 => (.array .int)
  | _ => .int
def zT1 : u_T := fun k => match k with
  | 0 => ("SlicedReads$Coder", "likelihoods", "[I", true)
  | 1 => ("SlicedReads$Coder", "range", "J", false)
  | 2 => ("SlicedReads$Decoder", "row", "[I", true)
  | 3 => ("SlicedReads$Decoder", "rowLength", "I", false)
  | 4 => ("SlicedReads$Decoder", "next", "I", false)
  | _ => ("SlicedReads$Decoder", "above", "J", false)
def zt1 : Nat → FieldType := fun k => match k with
  | 0 => (.array .int)
  | 1 => .long
  | 2 => (.array .int)
  | 3 => .int
  | 4 => .int
  | _ => .long
def zT2 : u_T := fun k => match k with
  | 0 => ("SlicedReads$Coder", "likelihoods", "[I", true)
  | 1 => ("SlicedReads$Coder", "range", "J", false)
  | 2 => ("SlicedReads$Encoder", "block", "[I", true)
  | 3 => ("SlicedReads$Encoder", "length", "I", false)
  | _ => ("SlicedReads$Encoder", "low", "J", false)
def zt2 : Nat → FieldType := fun k => match k with
  | 0 => (.array .int)
  | 1 => .long
  | 2 => (.array .int)
  | 3 => .int
  | _ => .long
def zT3 : u_T := fun k => match k with
  | 0 => ("SlicedReads$Read", "kinds", "[I", true)
  | 1 => ("SlicedReads$Read", "numbers", "[I", true)
  | 2 => ("SlicedReads$Read", "bases", "[I", true)
  | 3 => ("SlicedReads$Read", "position", "I", false)
  | 4 => ("SlicedReads$Read", "editCount", "I", false)
  | 5 => ("SlicedReads$Read", "baseCount", "I", false)
  | _ => ("SlicedReads$Read", "passed", "I", false)
def zt3 : Nat → FieldType := fun k => match k with
  | 0 => (.array .int)
  | 1 => (.array .int)
  | 2 => (.array .int)
  | 3 => .int
  | 4 => .int
  | 5 => .int
  | _ => .int
def zT4 : u_T := fun k => match k with
  | 0 => ("SlicedReads$ReadRow", "items", "[LSlicedReads$Read;", true)
  | _ => ("SlicedReads$ReadRow", "count", "I", false)
def zt4 : Nat → FieldType := fun k => match k with
  | 0 => (.array (.object "SlicedReads$Read"))
  | _ => .int
def zT5 : u_T := fun k => match k with
  | 0 => ("SlicedReads$Reference", "bases", "[I", true)
  | _ => ("SlicedReads$Reference", "count", "I", false)
def zt5 : Nat → FieldType := fun k => match k with
  | 0 => (.array .int)
  | _ => .int
def zT6 : u_T := fun k => match k with
  | 0 => ("SlicedReads", "reference", "LSlicedReads$Reference;", true)
  | 1 => ("SlicedReads", "finished", "LSlicedReads$ReadRow;", true)
  | 2 => ("SlicedReads", "underWay", "Z", false)
  | 3 => ("SlicedReads", "sorted", "[LSlicedReads$Read;", true)
  | 4 => ("SlicedReads", "shelf", "LSlicedReads$ReadRow;", false)
  | 5 => ("SlicedReads", "spare", "LSlicedReads$ReadRow;", false)
  | 6 => ("SlicedReads", "archive", "LSlicedReads$Archive;", true)
  | 7 => ("SlicedReads", "encoder", "LSlicedReads$Encoder;", true)
  | _ => ("SlicedReads", "decoder", "LSlicedReads$Decoder;", true)
def zt6 : Nat → FieldType := fun k => match k with
  | 0 => (.object "SlicedReads$Reference")
  | 1 => (.object "SlicedReads$ReadRow")
  | 2 => .boolean
  | 3 => (.array (.object "SlicedReads$Read"))
  | 4 => (.object "SlicedReads$ReadRow")
  | 5 => (.object "SlicedReads$ReadRow")
  | 6 => (.object "SlicedReads$Archive")
  | 7 => (.object "SlicedReads$Encoder")
  | _ => (.object "SlicedReads$Decoder")
def zT7 : u_T := fun k => match k with
  | 0 => ("SlicedReadsModel", "code", "I", false)
  | 1 => ("SlicedReadsModel", "length", "I", false)
  | 2 => ("SlicedReadsModel", "reference", "[I", true)
  | 3 => ("SlicedReadsModel", "reads", "I", false)
  | 4 => ("SlicedReadsModel", "onShelf", "I", false)
  | 5 => ("SlicedReadsModel", "going", "Z", false)
  | 6 => ("SlicedReadsModel", "position", "[I", true)
  | 7 => ("SlicedReadsModel", "edits", "[I", true)
  | 8 => ("SlicedReadsModel", "bases", "[I", true)
  | 9 => ("SlicedReadsModel", "passed", "[I", true)
  | 10 => ("SlicedReadsModel", "kinds", "[I", true)
  | 11 => ("SlicedReadsModel", "numbers", "[I", true)
  | 12 => ("SlicedReadsModel", "size", "I", false)
  | 13 => ("SlicedReadsModel", "archive", "[I", true)
  | 14 => ("SlicedReadsModel", "low", "J", false)
  | 15 => ("SlicedReadsModel", "range", "J", false)
  | 16 => ("SlicedReadsModel", "likely", "[I", true)
  | 17 => ("SlicedReadsModel", "rowSize", "I", false)
  | 18 => ("SlicedReadsModel", "row", "[I", true)
  | 19 => ("SlicedReadsModel", "value", "J", false)
  | 20 => ("SlicedReadsModel", "from", "I", false)
  | 21 => ("SlicedReadsModel", "upTo", "I", false)
  | 22 => ("SlicedReadsModel", "blockSize", "I", false)
  | 23 => ("SlicedReadsModel", "block", "[I", true)
  | _ => ("SlicedReadsModel", "order", "[I", true)
def zt7 : Nat → FieldType := fun k => match k with
  | 0 => .int
  | 1 => .int
  | 2 => (.array .int)
  | 3 => .int
  | 4 => .int
  | 5 => .boolean
  | 6 => (.array .int)
  | 7 => (.array .int)
  | 8 => (.array .int)
  | 9 => (.array .int)
  | 10 => (.array .int)
  | 11 => (.array .int)
  | 12 => .int
  | 13 => (.array .int)
  | 14 => .long
  | 15 => .long
  | 16 => (.array .int)
  | 17 => .int
  | 18 => (.array .int)
  | 19 => .long
  | 20 => .int
  | 21 => .int
  | 22 => .int
  | 23 => (.array .int)
  | _ => (.array .int)
abbrev zCl : List vw_C := [("SlicedReads$Archive", zT0, 2), ("SlicedReads$Decoder", zT1, 6), ("SlicedReads$Encoder", zT2, 5), ("SlicedReads$Read", zT3, 7), ("SlicedReads$ReadRow", zT4, 2), ("SlicedReads$Reference", zT5, 2), ("SlicedReads", zT6, 9), ("SlicedReadsModel", zT7, 25)]
def zTy : Nat → Nat → FieldType := fun c => match c with
  | 0 => zt0
  | 1 => zt1
  | 2 => zt2
  | 3 => zt3
  | 4 => zt4
  | 5 => zt5
  | 6 => zt6
  | _ => zt7
abbrev zRc : Nat := 3
theorem zRc_at : zCl[zRc]? = some (zRead, zT3, 7) := rfl
def zIsN : Cond → Bool
  | .methodLinkNest .. => true
  | .declares .. => true
  | .fieldLinkNest .. => true
  | .castable .. => true
  | _ => false
/-- selects words of private methods above a made class: proved at the law's start out of words of the tables -/
def zSx : List Cond := [.selects "SlicedReads$Decoder" ⟨"SlicedReads$Coder", "change", "(II)I"⟩ ⟨"SlicedReads$Coder", "change", "(II)I"⟩, .selects "SlicedReads$Decoder" ⟨"SlicedReads$Coder", "insert", "(I)I"⟩ ⟨"SlicedReads$Coder", "insert", "(I)I"⟩, .selects "SlicedReads$Encoder" ⟨"SlicedReads$Coder", "change", "(II)I"⟩ ⟨"SlicedReads$Coder", "change", "(II)I"⟩, .selects "SlicedReads$Encoder" ⟨"SlicedReads$Coder", "insert", "(I)I"⟩ ⟨"SlicedReads$Coder", "insert", "(I)I"⟩]
def zWs : List Cond := zSx ++ lw_tbl.filter goodWord
def zNs : List Cond := lw_tbl.filter zIsN
theorem zSx_good : ∀ w ∈ zSx, goodWord w = true := by decide +kernel
theorem zWs_good : ∀ w ∈ zWs, goodWord w = true := fun w h => (List.mem_append.mp h).elim (zSx_good w) (fun h => (List.mem_filter.mp h).2)
theorem zNs_is : ∀ w ∈ zNs, zIsN w = true := fun w h => (List.mem_filter.mp h).2
theorem zmem {w : Cond} (i : Nat) (h : lw_tbl[i]? = some w) (hg : goodWord w = true) : w ∈ zWs := List.mem_append_right _ (List.mem_filter.mpr ⟨List.mem_of_getElem? h, hg⟩)
theorem zmes {w : Cond} (i : Nat) (h : zSx[i]? = some w) : w ∈ zWs := List.mem_append_left _ (List.mem_of_getElem? h)
theorem zmen {w : Cond} (i : Nat) (h : lw_tbl[i]? = some w) (hg : zIsN w = true) : w ∈ zNs := List.mem_filter.mpr ⟨List.mem_of_getElem? h, hg⟩
def zStr : List (String × Nat × String) := [("SlicedReads", 67, "n is not 1 .. 16"), ("SlicedReads", 78, "there are reads, or one is under way"), ("SlicedReads", 84, "the reference would have more than 160 bases"), ("SlicedReads", 93, "no such position in the reference"), ("SlicedReads", 99, "no read is under way"), ("SlicedReads", 105, "no such edit at this place of the reference"), ("SlicedReads", 111, "the read would have more than 20 bases or 12 edits"), ("SlicedReads", 120, "no read with bases is under way"), ("SlicedReads", 122, "there are 24 reads"), ("SlicedReads", 128, "no such read"), ("SlicedReads", 139, "what is not 0 .. 3"), ("SlicedReads", 141, "no such base"), ("SlicedReads", 175, "no such byte in the archive"), ("SlicedReads", 180, "b is not 0 .. 255"), ("SlicedReads", 186, "no such block"), ("SlicedReads", 191, "the block is not sound"), ("SlicedReads", 193, "no such base of the reference"), ("SlicedReads", 195, "a block is not sound")]
def zNcs : List (String × String) := [("java/lang/IllegalArgumentException", "java/lang/IllegalStateException"), ("java/lang/IllegalArgumentException", "java/lang/UnsupportedOperationException"), ("java/lang/IllegalArgumentException", "java/lang/IndexOutOfBoundsException"), ("java/lang/IllegalStateException", "java/lang/IllegalArgumentException"), ("java/lang/IllegalStateException", "java/lang/UnsupportedOperationException"), ("java/lang/IllegalStateException", "java/lang/IndexOutOfBoundsException"), ("java/lang/UnsupportedOperationException", "java/lang/IllegalArgumentException"), ("java/lang/UnsupportedOperationException", "java/lang/IllegalStateException"), ("java/lang/UnsupportedOperationException", "java/lang/IndexOutOfBoundsException"), ("java/lang/IndexOutOfBoundsException", "java/lang/IllegalArgumentException"), ("java/lang/IndexOutOfBoundsException", "java/lang/IllegalStateException"), ("java/lang/IndexOutOfBoundsException", "java/lang/UnsupportedOperationException")]
theorem zws0 : ∀ j, j < 2 → u_lay "SlicedReads$Archive" zT0 j ∈ zWs := by
  intro j hj
  match j, hj with
  | 0, _ => exact zmem 144 (by decide +kernel) rfl
  | 1, _ => exact zmem 146 (by decide +kernel) rfl
  | j + 2, h => omega
theorem znm0 : ∀ a, a < 2 → ∀ b, b < 2 → a ≠ b → (zT0 a).2.1 ≠ (zT0 b).2.1 := by decide +kernel
theorem zty0 : ∀ j, j < 2 → parseFieldDescriptor (zT0 j).2.2.1 = some (zt0 j) := by decide +kernel
theorem zws1 : ∀ j, j < 6 → u_lay "SlicedReads$Decoder" zT1 j ∈ zWs := by
  intro j hj
  match j, hj with
  | 0, _ => exact zmem 197 (by decide +kernel) rfl
  | 1, _ => exact zmem 198 (by decide +kernel) rfl
  | 2, _ => exact zmem 189 (by decide +kernel) rfl
  | 3, _ => exact zmem 191 (by decide +kernel) rfl
  | 4, _ => exact zmem 193 (by decide +kernel) rfl
  | 5, _ => exact zmem 195 (by decide +kernel) rfl
  | j + 6, h => omega
theorem znm1 : ∀ a, a < 6 → ∀ b, b < 6 → a ≠ b → (zT1 a).2.1 ≠ (zT1 b).2.1 := by decide +kernel
theorem zty1 : ∀ j, j < 6 → parseFieldDescriptor (zT1 j).2.2.1 = some (zt1 j) := by decide +kernel
theorem zws2 : ∀ j, j < 5 → u_lay "SlicedReads$Encoder" zT2 j ∈ zWs := by
  intro j hj
  match j, hj with
  | 0, _ => exact zmem 174 (by decide +kernel) rfl
  | 1, _ => exact zmem 176 (by decide +kernel) rfl
  | 2, _ => exact zmem 168 (by decide +kernel) rfl
  | 3, _ => exact zmem 170 (by decide +kernel) rfl
  | 4, _ => exact zmem 172 (by decide +kernel) rfl
  | j + 5, h => omega
theorem znm2 : ∀ a, a < 5 → ∀ b, b < 5 → a ≠ b → (zT2 a).2.1 ≠ (zT2 b).2.1 := by decide +kernel
theorem zty2 : ∀ j, j < 5 → parseFieldDescriptor (zT2 j).2.2.1 = some (zt2 j) := by decide +kernel
theorem zws3 : ∀ j, j < 7 → u_lay "SlicedReads$Read" zT3 j ∈ zWs := by
  intro j hj
  match j, hj with
  | 0, _ => exact zmem 108 (by decide +kernel) rfl
  | 1, _ => exact zmem 110 (by decide +kernel) rfl
  | 2, _ => exact zmem 112 (by decide +kernel) rfl
  | 3, _ => exact zmem 114 (by decide +kernel) rfl
  | 4, _ => exact zmem 116 (by decide +kernel) rfl
  | 5, _ => exact zmem 118 (by decide +kernel) rfl
  | 6, _ => exact zmem 120 (by decide +kernel) rfl
  | j + 7, h => omega
theorem znm3 : ∀ a, a < 7 → ∀ b, b < 7 → a ≠ b → (zT3 a).2.1 ≠ (zT3 b).2.1 := by decide +kernel
theorem zty3 : ∀ j, j < 7 → parseFieldDescriptor (zT3 j).2.2.1 = some (zt3 j) := by decide +kernel
theorem zws4 : ∀ j, j < 2 → u_lay "SlicedReads$ReadRow" zT4 j ∈ zWs := by
  intro j hj
  match j, hj with
  | 0, _ => exact zmem 127 (by decide +kernel) rfl
  | 1, _ => exact zmem 129 (by decide +kernel) rfl
  | j + 2, h => omega
theorem znm4 : ∀ a, a < 2 → ∀ b, b < 2 → a ≠ b → (zT4 a).2.1 ≠ (zT4 b).2.1 := by decide +kernel
theorem zty4 : ∀ j, j < 2 → parseFieldDescriptor (zT4 j).2.2.1 = some (zt4 j) := by decide +kernel
theorem zws5 : ∀ j, j < 2 → u_lay "SlicedReads$Reference" zT5 j ∈ zWs := by
  intro j hj
  match j, hj with
  | 0, _ => exact zmem 71 (by decide +kernel) rfl
  | 1, _ => exact zmem 73 (by decide +kernel) rfl
  | j + 2, h => omega
theorem znm5 : ∀ a, a < 2 → ∀ b, b < 2 → a ≠ b → (zT5 a).2.1 ≠ (zT5 b).2.1 := by decide +kernel
theorem zty5 : ∀ j, j < 2 → parseFieldDescriptor (zT5 j).2.2.1 = some (zt5 j) := by decide +kernel
theorem zws6 : ∀ j, j < 9 → u_lay "SlicedReads" zT6 j ∈ zWs := by
  intro j hj
  match j, hj with
  | 0, _ => exact zmem 209 (by decide +kernel) rfl
  | 1, _ => exact zmem 211 (by decide +kernel) rfl
  | 2, _ => exact zmem 213 (by decide +kernel) rfl
  | 3, _ => exact zmem 215 (by decide +kernel) rfl
  | 4, _ => exact zmem 217 (by decide +kernel) rfl
  | 5, _ => exact zmem 219 (by decide +kernel) rfl
  | 6, _ => exact zmem 221 (by decide +kernel) rfl
  | 7, _ => exact zmem 223 (by decide +kernel) rfl
  | 8, _ => exact zmem 225 (by decide +kernel) rfl
  | j + 9, h => omega
theorem znm6 : ∀ a, a < 9 → ∀ b, b < 9 → a ≠ b → (zT6 a).2.1 ≠ (zT6 b).2.1 := by decide +kernel
theorem zty6 : ∀ j, j < 9 → parseFieldDescriptor (zT6 j).2.2.1 = some (zt6 j) := by decide +kernel
theorem zws7 : ∀ j, j < 25 → u_lay "SlicedReadsModel" zT7 j ∈ zWs := by
  intro j hj
  match j, hj with
  | 0, _ => exact zmem 690 (by decide +kernel) rfl
  | 1, _ => exact zmem 692 (by decide +kernel) rfl
  | 2, _ => exact zmem 694 (by decide +kernel) rfl
  | 3, _ => exact zmem 696 (by decide +kernel) rfl
  | 4, _ => exact zmem 698 (by decide +kernel) rfl
  | 5, _ => exact zmem 700 (by decide +kernel) rfl
  | 6, _ => exact zmem 702 (by decide +kernel) rfl
  | 7, _ => exact zmem 704 (by decide +kernel) rfl
  | 8, _ => exact zmem 706 (by decide +kernel) rfl
  | 9, _ => exact zmem 708 (by decide +kernel) rfl
  | 10, _ => exact zmem 710 (by decide +kernel) rfl
  | 11, _ => exact zmem 712 (by decide +kernel) rfl
  | 12, _ => exact zmem 714 (by decide +kernel) rfl
  | 13, _ => exact zmem 716 (by decide +kernel) rfl
  | 14, _ => exact zmem 718 (by decide +kernel) rfl
  | 15, _ => exact zmem 720 (by decide +kernel) rfl
  | 16, _ => exact zmem 722 (by decide +kernel) rfl
  | 17, _ => exact zmem 724 (by decide +kernel) rfl
  | 18, _ => exact zmem 726 (by decide +kernel) rfl
  | 19, _ => exact zmem 728 (by decide +kernel) rfl
  | 20, _ => exact zmem 730 (by decide +kernel) rfl
  | 21, _ => exact zmem 732 (by decide +kernel) rfl
  | 22, _ => exact zmem 734 (by decide +kernel) rfl
  | 23, _ => exact zmem 736 (by decide +kernel) rfl
  | 24, _ => exact zmem 738 (by decide +kernel) rfl
  | j + 25, h => omega
theorem znm7 : ∀ a, a < 25 → ∀ b, b < 25 → a ≠ b → (zT7 a).2.1 ≠ (zT7 b).2.1 := by decide +kernel
theorem zty7 : ∀ j, j < 25 → parseFieldDescriptor (zT7 j).2.2.1 = some (zt7 j) := by decide +kernel
theorem zCl_ws {c : Nat} {r : vw_C} (h : zCl[c]? = some r) : ∀ w ∈ u_ws r.1 r.2.1 r.2.2, w ∈ zWs := by
  match c, h with
  | 0, h =>
    have e : _ = r := Option.some.inj h
    subst e
    exact fun w hw => by obtain ⟨j, hj, rfl⟩ := List.mem_map.mp hw; exact zws0 j (List.mem_range.mp hj)
  | 1, h =>
    have e : _ = r := Option.some.inj h
    subst e
    exact fun w hw => by obtain ⟨j, hj, rfl⟩ := List.mem_map.mp hw; exact zws1 j (List.mem_range.mp hj)
  | 2, h =>
    have e : _ = r := Option.some.inj h
    subst e
    exact fun w hw => by obtain ⟨j, hj, rfl⟩ := List.mem_map.mp hw; exact zws2 j (List.mem_range.mp hj)
  | 3, h =>
    have e : _ = r := Option.some.inj h
    subst e
    exact fun w hw => by obtain ⟨j, hj, rfl⟩ := List.mem_map.mp hw; exact zws3 j (List.mem_range.mp hj)
  | 4, h =>
    have e : _ = r := Option.some.inj h
    subst e
    exact fun w hw => by obtain ⟨j, hj, rfl⟩ := List.mem_map.mp hw; exact zws4 j (List.mem_range.mp hj)
  | 5, h =>
    have e : _ = r := Option.some.inj h
    subst e
    exact fun w hw => by obtain ⟨j, hj, rfl⟩ := List.mem_map.mp hw; exact zws5 j (List.mem_range.mp hj)
  | 6, h =>
    have e : _ = r := Option.some.inj h
    subst e
    exact fun w hw => by obtain ⟨j, hj, rfl⟩ := List.mem_map.mp hw; exact zws6 j (List.mem_range.mp hj)
  | 7, h =>
    have e : _ = r := Option.some.inj h
    subst e
    exact fun w hw => by obtain ⟨j, hj, rfl⟩ := List.mem_map.mp hw; exact zws7 j (List.mem_range.mp hj)
  | c + 8, h => exact absurd h (by simp)
theorem zCl_nm {c : Nat} {r : vw_C} (h : zCl[c]? = some r) : ∀ a, a < r.2.2 → ∀ b, b < r.2.2 → a ≠ b → (r.2.1 a).2.1 ≠ (r.2.1 b).2.1 := by
  match c, h with
  | 0, h =>
    have e : _ = r := Option.some.inj h
    subst e
    exact znm0
  | 1, h =>
    have e : _ = r := Option.some.inj h
    subst e
    exact znm1
  | 2, h =>
    have e : _ = r := Option.some.inj h
    subst e
    exact znm2
  | 3, h =>
    have e : _ = r := Option.some.inj h
    subst e
    exact znm3
  | 4, h =>
    have e : _ = r := Option.some.inj h
    subst e
    exact znm4
  | 5, h =>
    have e : _ = r := Option.some.inj h
    subst e
    exact znm5
  | 6, h =>
    have e : _ = r := Option.some.inj h
    subst e
    exact znm6
  | 7, h =>
    have e : _ = r := Option.some.inj h
    subst e
    exact znm7
  | c + 8, h => exact absurd h (by simp)
theorem zCl_ty {c : Nat} {r : vw_C} (h : zCl[c]? = some r) : ∀ j, j < r.2.2 → parseFieldDescriptor (r.2.1 j).2.2.1 = some (zTy c j) := by
  match c, h with
  | 0, h =>
    have e : _ = r := Option.some.inj h
    subst e
    exact zty0
  | 1, h =>
    have e : _ = r := Option.some.inj h
    subst e
    exact zty1
  | 2, h =>
    have e : _ = r := Option.some.inj h
    subst e
    exact zty2
  | 3, h =>
    have e : _ = r := Option.some.inj h
    subst e
    exact zty3
  | 4, h =>
    have e : _ = r := Option.some.inj h
    subst e
    exact zty4
  | 5, h =>
    have e : _ = r := Option.some.inj h
    subst e
    exact zty5
  | 6, h =>
    have e : _ = r := Option.some.inj h
    subst e
    exact zty6
  | 7, h =>
    have e : _ = r := Option.some.inj h
    subst e
    exact zty7
  | c + 8, h => exact absurd h (by simp)
abbrev Y_Sr_init : MethodName × ByteArray × Nat × Option FieldType := (⟨"SlicedReads", "<init>", "()V"⟩, prog_1_method_1_code, 2, none)
abbrev Y_Re_init : MethodName × ByteArray × Nat × Option FieldType := (⟨"SlicedReads$Reference", "<init>", "()V"⟩, prog_8_method_1_code, 1, none)
abbrev Y_Rr_init : MethodName × ByteArray × Nat × Option FieldType := (⟨"SlicedReads$ReadRow", "<init>", "(I)V"⟩, prog_7_method_1_code, 3, none)
abbrev Y_Rd_init : MethodName × ByteArray × Nat × Option FieldType := (⟨"SlicedReads$Read", "<init>", "()V"⟩, prog_6_method_1_code, 1, none)
abbrev Y_Ar_init : MethodName × ByteArray × Nat × Option FieldType := (⟨"SlicedReads$Archive", "<init>", "()V"⟩, prog_2_method_1_code, 1, none)
abbrev Y_En_init : MethodName × ByteArray × Nat × Option FieldType := (⟨"SlicedReads$Encoder", "<init>", "()V"⟩, prog_5_method_1_code, 1, none)
abbrev Y_Co_init : MethodName × ByteArray × Nat × Option FieldType := (⟨"SlicedReads$Coder", "<init>", "()V"⟩, prog_3_method_1_code, 1, none)
abbrev Y_De_init : MethodName × ByteArray × Nat × Option FieldType := (⟨"SlicedReads$Decoder", "<init>", "()V"⟩, prog_4_method_1_code, 1, none)
abbrev Y_Sr_clear : MethodName × ByteArray × Nat × Option FieldType := (⟨"SlicedReads", "clear", "(Z)V"⟩, prog_1_method_3_code, 2, none)
abbrev Y_Sr_reads : MethodName × ByteArray × Nat × Option FieldType := (⟨"SlicedReads", "reads", "()I"⟩, prog_1_method_7_code, 1, (some .int))
abbrev Y_Sr_pack : MethodName × ByteArray × Nat × Option FieldType := (⟨"SlicedReads", "pack", "()I"⟩, prog_1_method_10_code, 2, (some .int))
abbrev Y_Sr_sortByPosition : MethodName × ByteArray × Nat × Option FieldType := (⟨"SlicedReads", "sortByPosition", "()V"⟩, prog_1_method_17_code, 4, none)
abbrev Y_JM_min : MethodName × ByteArray × Nat × Option FieldType := (⟨"java/lang/Math", "min", "(II)I"⟩, prog_15_method_69_code, 2, (some .int))
abbrev Y_En_writeBlock : MethodName × ByteArray × Nat × Option FieldType := (⟨"SlicedReads$Encoder", "writeBlock", "(LSlicedReads$Reference;[LSlicedReads$Read;II)V"⟩, prog_5_method_2_code, 7, none)
abbrev Y_Co_renew : MethodName × ByteArray × Nat × Option FieldType := (⟨"SlicedReads$Coder", "renew", "()V"⟩, prog_3_method_4_code, 1, none)
abbrev Y_JA_fill : MethodName × ByteArray × Nat × Option FieldType := (⟨"java/util/Arrays", "fill", "([II)V"⟩, prog_21_method_103_code, 4, none)
abbrev Y_En_writeRead : MethodName × ByteArray × Nat × Option FieldType := (⟨"SlicedReads$Encoder", "writeRead", "(LSlicedReads$Reference;LSlicedReads$Read;I)V"⟩, prog_5_method_3_code, 9, none)
abbrev Y_Co_number : MethodName × ByteArray × Nat × Option FieldType := (⟨"SlicedReads$Coder", "number", "(II)I"⟩, prog_3_method_6_code, 6, (some .int))
abbrev Y_Co_bit : MethodName × ByteArray × Nat × Option FieldType := (⟨"SlicedReads$Coder", "bit", "(II)I"⟩, prog_3_method_5_code, 8, (some .int))
abbrev Y_De_choose : MethodName × ByteArray × Nat × Option FieldType := (⟨"SlicedReads$Decoder", "choose", "(JI)I"⟩, prog_4_method_5_code, 4, (some .int))
abbrev Y_En_choose : MethodName × ByteArray × Nat × Option FieldType := (⟨"SlicedReads$Encoder", "choose", "(JI)I"⟩, prog_5_method_6_code, 5, (some .int))
abbrev Y_De_shiftByte : MethodName × ByteArray × Nat × Option FieldType := (⟨"SlicedReads$Decoder", "shiftByte", "()V"⟩, prog_4_method_6_code, 2, none)
abbrev Y_En_shiftByte : MethodName × ByteArray × Nat × Option FieldType := (⟨"SlicedReads$Encoder", "shiftByte", "()V"⟩, prog_5_method_7_code, 1, none)
abbrev Y_Co_kind : MethodName × ByteArray × Nat × Option FieldType := (⟨"SlicedReads$Coder", "kind", "(II)I"⟩, prog_3_method_7_code, 4, (some .int))
abbrev Y_Co_editNumber : MethodName × ByteArray × Nat × Option FieldType := (⟨"SlicedReads$Coder", "editNumber", "(LSlicedReads$Reference;III)I"⟩, prog_3_method_8_code, 5, (some .int))
abbrev Y_Co_change : MethodName × ByteArray × Nat × Option FieldType := (⟨"SlicedReads$Coder", "change", "(II)I"⟩, prog_3_method_9_code, 6, (some .int))
abbrev Y_Co_insert : MethodName × ByteArray × Nat × Option FieldType := (⟨"SlicedReads$Coder", "insert", "(I)I"⟩, prog_3_method_10_code, 3, (some .int))
abbrev Y_En_closeRow : MethodName × ByteArray × Nat × Option FieldType := (⟨"SlicedReads$Encoder", "closeRow", "()V"⟩, prog_5_method_4_code, 2, none)
abbrev Y_En_addCheck : MethodName × ByteArray × Nat × Option FieldType := (⟨"SlicedReads$Encoder", "addCheck", "()V"⟩, prog_5_method_5_code, 3, none)
abbrev Y_Ar_append : MethodName × ByteArray × Nat × Option FieldType := (⟨"SlicedReads$Archive", "append", "([II)V"⟩, prog_2_method_7_code, 4, none)
abbrev Y_Sr_blocks : MethodName × ByteArray × Nat × Option FieldType := (⟨"SlicedReads", "blocks", "()I"⟩, prog_1_method_11_code, 1, (some .int))
abbrev Y_Ar_countBegins : MethodName × ByteArray × Nat × Option FieldType := (⟨"SlicedReads$Archive", "countBegins", "()I"⟩, prog_2_method_5_code, 3, (some .int))
abbrev Y_Ar_rowLength : MethodName × ByteArray × Nat × Option FieldType := (⟨"SlicedReads$Archive", "rowLength", "(I)I"⟩, prog_2_method_3_code, 2, (some .int))
abbrev Y_Ar_has : MethodName × ByteArray × Nat × Option FieldType := (⟨"SlicedReads$Archive", "has", "(I)Z"⟩, prog_2_method_2_code, 2, (some .boolean))
abbrev Y_Sr_size : MethodName × ByteArray × Nat × Option FieldType := (⟨"SlicedReads", "size", "()I"⟩, prog_1_method_12_code, 1, (some .int))
abbrev Y_La_refer : MethodName × ByteArray × Nat × Option FieldType := (⟨"SlicedReadsLaw", "refer", "(LSlicedReads;II[J)I"⟩, method_3_code, 5, (some .int))
abbrev Y_Sr_refer : MethodName × ByteArray × Nat × Option FieldType := (⟨"SlicedReads", "refer", "(II)I"⟩, prog_1_method_2_code, 3, (some .int))
abbrev Y_Re_append : MethodName × ByteArray × Nat × Option FieldType := (⟨"SlicedReads$Reference", "append", "(II)V"⟩, prog_8_method_2_code, 4, none)
abbrev Y_La_start : MethodName × ByteArray × Nat × Option FieldType := (⟨"SlicedReadsLaw", "start", "(LSlicedReads;I)I"⟩, method_4_code, 3, (some .int))
abbrev Y_Sr_start : MethodName × ByteArray × Nat × Option FieldType := (⟨"SlicedReads", "start", "(I)V"⟩, prog_1_method_4_code, 2, none)
abbrev Y_Rd_begin : MethodName × ByteArray × Nat × Option FieldType := (⟨"SlicedReads$Read", "begin", "(I)V"⟩, prog_6_method_2_code, 2, none)
abbrev Y_La_edit : MethodName × ByteArray × Nat × Option FieldType := (⟨"SlicedReadsLaw", "edit", "(LSlicedReads;II)I"⟩, method_5_code, 4, (some .int))
abbrev Y_Sr_edit : MethodName × ByteArray × Nat × Option FieldType := (⟨"SlicedReads", "edit", "(II)V"⟩, prog_1_method_5_code, 4, none)
abbrev Y_Rd_fits : MethodName × ByteArray × Nat × Option FieldType := (⟨"SlicedReads$Read", "fits", "(LSlicedReads$Reference;II)Z"⟩, prog_6_method_4_code, 4, (some .boolean))
abbrev Y_Rd_place : MethodName × ByteArray × Nat × Option FieldType := (⟨"SlicedReads$Read", "place", "()I"⟩, prog_6_method_3_code, 1, (some .int))
abbrev Y_Rd_isBase : MethodName × ByteArray × Nat × Option FieldType := (⟨"SlicedReads$Read", "isBase", "(I)Z"⟩, prog_6_method_5_code, 1, (some .boolean))
abbrev Y_Rd_hasRoom : MethodName × ByteArray × Nat × Option FieldType := (⟨"SlicedReads$Read", "hasRoom", "(II)Z"⟩, prog_6_method_7_code, 5, (some .boolean))
abbrev Y_Rd_lengthensLast : MethodName × ByteArray × Nat × Option FieldType := (⟨"SlicedReads$Read", "lengthensLast", "(I)Z"⟩, prog_6_method_6_code, 2, (some .boolean))
abbrev Y_Rd_add : MethodName × ByteArray × Nat × Option FieldType := (⟨"SlicedReads$Read", "add", "(LSlicedReads$Reference;II)V"⟩, prog_6_method_8_code, 4, none)
abbrev Y_Rd_addBases : MethodName × ByteArray × Nat × Option FieldType := (⟨"SlicedReads$Read", "addBases", "(LSlicedReads$Reference;II)V"⟩, prog_6_method_9_code, 4, none)
abbrev Y_La_finish : MethodName × ByteArray × Nat × Option FieldType := (⟨"SlicedReadsLaw", "finish", "(LSlicedReads;[J)I"⟩, method_6_code, 3, (some .int))
abbrev Y_Sr_finish : MethodName × ByteArray × Nat × Option FieldType := (⟨"SlicedReads", "finish", "()I"⟩, prog_1_method_6_code, 1, (some .int))
abbrev Y_La_about : MethodName × ByteArray × Nat × Option FieldType := (⟨"SlicedReadsLaw", "about", "(LSlicedReads;IIZ[J)I"⟩, method_7_code, 6, (some .int))
abbrev Y_Sr_about : MethodName × ByteArray × Nat × Option FieldType := (⟨"SlicedReads", "about", "(IIZ)I"⟩, prog_1_method_8_code, 5, (some .int))
abbrev Y_Rr_has : MethodName × ByteArray × Nat × Option FieldType := (⟨"SlicedReads$ReadRow", "has", "(I)Z"⟩, prog_7_method_2_code, 2, (some .boolean))
abbrev Y_La_base : MethodName × ByteArray × Nat × Option FieldType := (⟨"SlicedReadsLaw", "base", "(LSlicedReads;IIZ[J)I"⟩, method_8_code, 6, (some .int))
abbrev Y_Sr_base : MethodName × ByteArray × Nat × Option FieldType := (⟨"SlicedReads", "base", "(IIZ)I"⟩, prog_1_method_9_code, 5, (some .int))
abbrev Y_La_at : MethodName × ByteArray × Nat × Option FieldType := (⟨"SlicedReadsLaw", "at", "(LSlicedReads;I[J)I"⟩, method_9_code, 4, (some .int))
abbrev Y_Sr_at : MethodName × ByteArray × Nat × Option FieldType := (⟨"SlicedReads", "at", "(I)I"⟩, prog_1_method_13_code, 2, (some .int))
abbrev Y_La_corrupt : MethodName × ByteArray × Nat × Option FieldType := (⟨"SlicedReadsLaw", "corrupt", "(LSlicedReads;II)I"⟩, method_10_code, 4, (some .int))
abbrev Y_Sr_corrupt : MethodName × ByteArray × Nat × Option FieldType := (⟨"SlicedReads", "corrupt", "(II)V"⟩, prog_1_method_14_code, 3, none)
abbrev Y_La_unpack : MethodName × ByteArray × Nat × Option FieldType := (⟨"SlicedReadsLaw", "unpack", "(LSlicedReads;I[J)I"⟩, method_11_code, 4, (some .int))
abbrev Y_Sr_unpack : MethodName × ByteArray × Nat × Option FieldType := (⟨"SlicedReads", "unpack", "(I)I"⟩, prog_1_method_15_code, 4, (some .int))
abbrev Y_Ar_beginOf : MethodName × ByteArray × Nat × Option FieldType := (⟨"SlicedReads$Archive", "beginOf", "(I)I"⟩, prog_2_method_6_code, 4, (some .int))
abbrev Y_Sr_readsSoundly : MethodName × ByteArray × Nat × Option FieldType := (⟨"SlicedReads", "readsSoundly", "(I)Z"⟩, prog_1_method_18_code, 6, (some .boolean))
abbrev Y_Ar_hasWholeBlock : MethodName × ByteArray × Nat × Option FieldType := (⟨"SlicedReads$Archive", "hasWholeBlock", "(I)Z"⟩, prog_2_method_4_code, 2, (some .boolean))
abbrev Y_De_open : MethodName × ByteArray × Nat × Option FieldType := (⟨"SlicedReads$Decoder", "open", "(LSlicedReads$Archive;I)Z"⟩, prog_4_method_2_code, 4, (some .boolean))
abbrev Y_De_readRead : MethodName × ByteArray × Nat × Option FieldType := (⟨"SlicedReads$Decoder", "readRead", "(LSlicedReads$Reference;LSlicedReads$Read;I)Z"⟩, prog_4_method_3_code, 8, (some .boolean))
abbrev Y_De_readEdit : MethodName × ByteArray × Nat × Option FieldType := (⟨"SlicedReads$Decoder", "readEdit", "(LSlicedReads$Reference;LSlicedReads$Read;I)Z"⟩, prog_4_method_4_code, 5, (some .boolean))
abbrev Y_Ar_holds : MethodName × ByteArray × Nat × Option FieldType := (⟨"SlicedReads$Archive", "holds", "(I[II)Z"⟩, prog_2_method_8_code, 5, (some .boolean))
abbrev Y_La_depth : MethodName × ByteArray × Nat × Option FieldType := (⟨"SlicedReadsLaw", "depth", "(LSlicedReads;I[J)I"⟩, method_12_code, 4, (some .int))
abbrev Y_Sr_depth : MethodName × ByteArray × Nat × Option FieldType := (⟨"SlicedReads", "depth", "(I)I"⟩, prog_1_method_16_code, 4, (some .int))
abbrev Y_Rr_countOver : MethodName × ByteArray × Nat × Option FieldType := (⟨"SlicedReads$ReadRow", "countOver", "(I)I"⟩, prog_7_method_3_code, 4, (some .int))
abbrev Y_Mo_init : MethodName × ByteArray × Nat × Option FieldType := (⟨"SlicedReadsModel", "<init>", "()V"⟩, prog_10_method_1_code, 1, none)
abbrev Y_Mo_thrown : MethodName × ByteArray × Nat × Option FieldType := (⟨"SlicedReadsModel", "thrown", "()I"⟩, prog_10_method_2_code, 1, (some .int))
abbrev Y_Mo_refer : MethodName × ByteArray × Nat × Option FieldType := (⟨"SlicedReadsModel", "refer", "(II)I"⟩, prog_10_method_3_code, 4, (some .int))
abbrev Y_Mo_clear : MethodName × ByteArray × Nat × Option FieldType := (⟨"SlicedReadsModel", "clear", "(Z)V"⟩, prog_10_method_4_code, 2, none)
abbrev Y_Mo_start : MethodName × ByteArray × Nat × Option FieldType := (⟨"SlicedReadsModel", "start", "(I)V"⟩, prog_10_method_6_code, 2, none)
abbrev Y_Mo_open : MethodName × ByteArray × Nat × Option FieldType := (⟨"SlicedReadsModel", "open", "(II)V"⟩, prog_10_method_5_code, 3, none)
abbrev Y_Mo_edit : MethodName × ByteArray × Nat × Option FieldType := (⟨"SlicedReadsModel", "edit", "(II)V"⟩, prog_10_method_9_code, 4, none)
abbrev Y_Mo_barred : MethodName × ByteArray × Nat × Option FieldType := (⟨"SlicedReadsModel", "barred", "(III)I"⟩, prog_10_method_7_code, 8, (some .int))
abbrev Y_Mo_append : MethodName × ByteArray × Nat × Option FieldType := (⟨"SlicedReadsModel", "append", "(III)V"⟩, prog_10_method_8_code, 6, none)
abbrev Y_Mo_finish : MethodName × ByteArray × Nat × Option FieldType := (⟨"SlicedReadsModel", "finish", "()I"⟩, prog_10_method_11_code, 1, (some .int))
abbrev Y_Mo_copy : MethodName × ByteArray × Nat × Option FieldType := (⟨"SlicedReadsModel", "copy", "(II)V"⟩, prog_10_method_10_code, 4, none)
abbrev Y_Mo_reads : MethodName × ByteArray × Nat × Option FieldType := (⟨"SlicedReadsModel", "reads", "()I"⟩, prog_10_method_12_code, 1, (some .int))
abbrev Y_Mo_about : MethodName × ByteArray × Nat × Option FieldType := (⟨"SlicedReadsModel", "about", "(IIZ)I"⟩, prog_10_method_14_code, 5, (some .int))
abbrev Y_Mo_noRead : MethodName × ByteArray × Nat × Option FieldType := (⟨"SlicedReadsModel", "noRead", "(IZ)Z"⟩, prog_10_method_13_code, 3, (some .boolean))
abbrev Y_Mo_base : MethodName × ByteArray × Nat × Option FieldType := (⟨"SlicedReadsModel", "base", "(IIZ)I"⟩, prog_10_method_15_code, 10, (some .int))
abbrev Y_Mo_pack : MethodName × ByteArray × Nat × Option FieldType := (⟨"SlicedReadsModel", "pack", "()I"⟩, prog_10_method_26_code, 3, (some .int))
abbrev Y_Mo_write : MethodName × ByteArray × Nat × Option FieldType := (⟨"SlicedReadsModel", "write", "(II)V"⟩, prog_10_method_25_code, 6, none)
abbrev Y_Mo_fresh : MethodName × ByteArray × Nat × Option FieldType := (⟨"SlicedReadsModel", "fresh", "()V"⟩, prog_10_method_16_code, 2, none)
abbrev Y_Mo_putRead : MethodName × ByteArray × Nat × Option FieldType := (⟨"SlicedReadsModel", "putRead", "(II)V"⟩, prog_10_method_22_code, 10, none)
abbrev Y_Mo_putNumber : MethodName × ByteArray × Nat × Option FieldType := (⟨"SlicedReadsModel", "putNumber", "(II)V"⟩, prog_10_method_20_code, 5, none)
abbrev Y_Mo_put : MethodName × ByteArray × Nat × Option FieldType := (⟨"SlicedReadsModel", "put", "(II)V"⟩, prog_10_method_19_code, 5, none)
abbrev Y_Mo_learn : MethodName × ByteArray × Nat × Option FieldType := (⟨"SlicedReadsModel", "learn", "(II)V"⟩, prog_10_method_18_code, 3, none)
abbrev Y_Mo_carry : MethodName × ByteArray × Nat × Option FieldType := (⟨"SlicedReadsModel", "carry", "()V"⟩, prog_10_method_17_code, 3, none)
abbrev Y_Mo_putKind : MethodName × ByteArray × Nat × Option FieldType := (⟨"SlicedReadsModel", "putKind", "(II)V"⟩, prog_10_method_21_code, 4, none)
abbrev Y_Mo_seal : MethodName × ByteArray × Nat × Option FieldType := (⟨"SlicedReadsModel", "seal", "()V"⟩, prog_10_method_23_code, 2, none)
abbrev Y_Mo_add : MethodName × ByteArray × Nat × Option FieldType := (⟨"SlicedReadsModel", "add", "(I)V"⟩, prog_10_method_24_code, 2, none)
abbrev Y_Mo_blocks : MethodName × ByteArray × Nat × Option FieldType := (⟨"SlicedReadsModel", "blocks", "()I"⟩, prog_10_method_28_code, 2, (some .int))
abbrev Y_Mo_beginOf : MethodName × ByteArray × Nat × Option FieldType := (⟨"SlicedReadsModel", "beginOf", "(I)I"⟩, prog_10_method_27_code, 4, (some .int))
abbrev Y_Mo_size : MethodName × ByteArray × Nat × Option FieldType := (⟨"SlicedReadsModel", "size", "()I"⟩, prog_10_method_29_code, 1, (some .int))
abbrev Y_Mo_at : MethodName × ByteArray × Nat × Option FieldType := (⟨"SlicedReadsModel", "at", "(I)I"⟩, prog_10_method_30_code, 2, (some .int))
abbrev Y_Mo_corrupt : MethodName × ByteArray × Nat × Option FieldType := (⟨"SlicedReadsModel", "corrupt", "(II)V"⟩, prog_10_method_31_code, 3, none)
abbrev Y_Mo_unpack : MethodName × ByteArray × Nat × Option FieldType := (⟨"SlicedReadsModel", "unpack", "(I)I"⟩, prog_10_method_38_code, 5, (some .int))
abbrev Y_Mo_take : MethodName × ByteArray × Nat × Option FieldType := (⟨"SlicedReadsModel", "take", "(I)I"⟩, prog_10_method_37_code, 7, (some .int))
abbrev Y_Mo_nextByte : MethodName × ByteArray × Nat × Option FieldType := (⟨"SlicedReadsModel", "nextByte", "()I"⟩, prog_10_method_32_code, 2, (some .int))
abbrev Y_Mo_takeRead : MethodName × ByteArray × Nat × Option FieldType := (⟨"SlicedReadsModel", "takeRead", "(II)Z"⟩, prog_10_method_36_code, 10, (some .boolean))
abbrev Y_Mo_getNumber : MethodName × ByteArray × Nat × Option FieldType := (⟨"SlicedReadsModel", "getNumber", "(I)I"⟩, prog_10_method_34_code, 5, (some .int))
abbrev Y_Mo_get : MethodName × ByteArray × Nat × Option FieldType := (⟨"SlicedReadsModel", "get", "(I)I"⟩, prog_10_method_33_code, 5, (some .int))
abbrev Y_Mo_getKind : MethodName × ByteArray × Nat × Option FieldType := (⟨"SlicedReadsModel", "getKind", "(I)I"⟩, prog_10_method_35_code, 3, (some .int))
abbrev Y_Mo_depth : MethodName × ByteArray × Nat × Option FieldType := (⟨"SlicedReadsModel", "depth", "(I)I"⟩, prog_10_method_39_code, 7, (some .int))
abbrev Y_La_law : MethodName × ByteArray × Nat × Option FieldType := (⟨"SlicedReadsLaw", "law", "([I)Z"⟩, code, 7, (some .boolean))
