/-! what the throws of this class want of the tables -/
def zHasB (w : Cond) : Bool := (lw_tbl.any (fun v => decide (v = w)) && (goodWord w || zIsN w)) || zHw.any (fun v => decide (v = w))
theorem zHasB_of {w : Cond} (h : zHasB w = true) : zHas w := by
  unfold zHasB at h
  rw [Bool.or_eq_true, Bool.and_eq_true, Bool.or_eq_true] at h
  rcases h with ⟨h1, h2⟩ | h
  · obtain ⟨v, hv, e⟩ := List.any_eq_true.mp h1
    have e' : v = w := of_decide_eq_true e
    subst e'
    rcases h2 with h2 | h2
    · exact Or.inl (List.mem_append_right _ (List.mem_filter.mpr ⟨hv, h2⟩))
    · exact Or.inr (Or.inl (List.mem_filter.mpr ⟨hv, h2⟩))
  · obtain ⟨v, hv, e⟩ := List.any_eq_true.mp h
    have e' : v = w := of_decide_eq_true e
    subst e'
    exact Or.inr (Or.inr hv)
theorem thr_IA : zThr "SlicedReads" 65 69 "java/lang/IllegalArgumentException" := ⟨zmem 366 (by decide +kernel) rfl, zmem 43 (by decide +kernel) rfl, by decide +kernel, fun w hw => zHasB_of (List.all_eq_true.mp (by decide +kernel : (Bundle.ownAtoms "SlicedReads" 69 "java/lang/IllegalArgumentException" zUp).all zHasB = true) w hw)⟩
theorem thr_IS : zThr "SlicedReads" 76 80 "java/lang/IllegalStateException" := ⟨zmem 435 (by decide +kernel) rfl, zmem 44 (by decide +kernel) rfl, by decide +kernel, fun w hw => zHasB_of (List.all_eq_true.mp (by decide +kernel : (Bundle.ownAtoms "SlicedReads" 80 "java/lang/IllegalStateException" zUp).all zHasB = true) w hw)⟩
theorem thr_UO : zThr "SlicedReads" 82 86 "java/lang/UnsupportedOperationException" := ⟨zmem 451 (by decide +kernel) rfl, zmem 45 (by decide +kernel) rfl, by decide +kernel, fun w hw => zHasB_of (List.all_eq_true.mp (by decide +kernel : (Bundle.ownAtoms "SlicedReads" 86 "java/lang/UnsupportedOperationException" zUp).all zHasB = true) w hw)⟩
theorem thr_IO : zThr "SlicedReads" 91 95 "java/lang/IndexOutOfBoundsException" := ⟨zmem 479 (by decide +kernel) rfl, zmem 46 (by decide +kernel) rfl, by decide +kernel, fun w hw => zHasB_of (List.all_eq_true.mp (by decide +kernel : (Bundle.ownAtoms "SlicedReads" 95 "java/lang/IndexOutOfBoundsException" zUp).all zHasB = true) w hw)⟩
theorem zs_67 : ("SlicedReads", 67, "n is not 1 .. 16") ∈ zStr := List.mem_of_getElem? (i := 0) (by decide +kernel)
theorem zs_78 : ("SlicedReads", 78, "there are reads, or one is under way") ∈ zStr := List.mem_of_getElem? (i := 1) (by decide +kernel)
theorem zs_84 : ("SlicedReads", 84, "the reference would have more than 160 bases") ∈ zStr := List.mem_of_getElem? (i := 2) (by decide +kernel)
theorem zs_93 : ("SlicedReads", 93, "no such position in the reference") ∈ zStr := List.mem_of_getElem? (i := 3) (by decide +kernel)
theorem zs_99 : ("SlicedReads", 99, "no read is under way") ∈ zStr := List.mem_of_getElem? (i := 4) (by decide +kernel)
theorem zs_105 : ("SlicedReads", 105, "no such edit at this place of the reference") ∈ zStr := List.mem_of_getElem? (i := 5) (by decide +kernel)
theorem zs_111 : ("SlicedReads", 111, "the read would have more than 20 bases or 12 edits") ∈ zStr := List.mem_of_getElem? (i := 6) (by decide +kernel)
theorem zs_120 : ("SlicedReads", 120, "no read with bases is under way") ∈ zStr := List.mem_of_getElem? (i := 7) (by decide +kernel)
theorem zs_122 : ("SlicedReads", 122, "there are 24 reads") ∈ zStr := List.mem_of_getElem? (i := 8) (by decide +kernel)
theorem zs_128 : ("SlicedReads", 128, "no such read") ∈ zStr := List.mem_of_getElem? (i := 9) (by decide +kernel)
theorem zs_139 : ("SlicedReads", 139, "what is not 0 .. 3") ∈ zStr := List.mem_of_getElem? (i := 10) (by decide +kernel)
theorem zs_141 : ("SlicedReads", 141, "no such base") ∈ zStr := List.mem_of_getElem? (i := 11) (by decide +kernel)
theorem zs_175 : ("SlicedReads", 175, "no such byte in the archive") ∈ zStr := List.mem_of_getElem? (i := 12) (by decide +kernel)
theorem zs_180 : ("SlicedReads", 180, "b is not 0 .. 255") ∈ zStr := List.mem_of_getElem? (i := 13) (by decide +kernel)
theorem zs_186 : ("SlicedReads", 186, "no such block") ∈ zStr := List.mem_of_getElem? (i := 14) (by decide +kernel)
theorem zs_191 : ("SlicedReads", 191, "the block is not sound") ∈ zStr := List.mem_of_getElem? (i := 15) (by decide +kernel)
theorem zs_193 : ("SlicedReads", 193, "no such base of the reference") ∈ zStr := List.mem_of_getElem? (i := 16) (by decide +kernel)
theorem zs_195 : ("SlicedReads", 195, "a block is not sound") ∈ zStr := List.mem_of_getElem? (i := 17) (by decide +kernel)
