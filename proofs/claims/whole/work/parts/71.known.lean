/-! what the Statement gives at the law's beginning -/
theorem zCl_ins {c : Nat} {r : vw_C} (h : zCl[c]? = some r) : Cond.instantiable r.1 r.2.2 ∈ zWs := by
  match c, h with
  | 0, h =>
    have e : _ = r := Option.some.inj h
    subst e
    exact ins_0
  | 1, h =>
    have e : _ = r := Option.some.inj h
    subst e
    exact ins_1
  | 2, h =>
    have e : _ = r := Option.some.inj h
    subst e
    exact ins_2
  | 3, h =>
    have e : _ = r := Option.some.inj h
    subst e
    exact ins_3
  | 4, h =>
    have e : _ = r := Option.some.inj h
    subst e
    exact ins_4
  | 5, h =>
    have e : _ = r := Option.some.inj h
    subst e
    exact ins_5
  | 6, h =>
    have e : _ = r := Option.some.inj h
    subst e
    exact ins_6
  | 7, h =>
    have e : _ = r := Option.some.inj h
    subst e
    exact ins_7
  | c + 8, h => exact absurd h (by simp)
section ZS
variable {s : State} {args : Array Value}
/-- a private method of a class above a made one is selected there -/
theorem z_selp {C : String} {y z w : MethodName} (hy : y.cls ≠ "java/lang/invoke/MethodHandle" ∧ y.cls ≠ "java/lang/invoke/VarHandle") (hz : (Cond.selects C z w).before args s = true) (hw : w.cls = y.cls)
    (hpriv : (Cond.privateMethod y).before args s = true) (hinst : (Cond.instanceMethod y).before args s = true) : (Cond.selects C y y).before args s = true := by
  obtain ⟨c, r, m, hc, -, hm, -, kM, hkM, hni⟩ := Cond.selects_spec hz
  obtain ⟨mk, methM, hnamed, hmethM, -, -⟩ := Cond.instanceMethod_spec hinst
  have hfound : s.methodFound? y.cls y.name y.desc = some mk := State.methodFound?_of_named hnamed hy
  have h1 := findClass_of_methodNamed hnamed
  have h2 := findClass_of_methodNamed hm
  rw [hw] at h2
  have hcls : mk.cls = m.cls := Option.some.inj (h1.symm.trans h2)
  have hsel : selectMethod {} s.vm c mk = .method mk := selectMethod_private hmethM (Cond.privateMethod_at hpriv mk methM hnamed hmethM)
  simp only [Cond.before, Cond.holds, Cond.value, hc, hfound, hnamed, hsel, hcls, hkM]
  simp
  exact hni
theorem z_hts (hts : ∀ w ∈ lw_tbl, w.before args s = true) : ∀ w ∈ zWs, w.before args s = true := by
  intro w hw
  rcases List.mem_append.mp hw with h | h
  · simp only [zSx, List.mem_cons, List.not_mem_nil, or_false] at h
    rcases h with rfl | rfl | rfl | rfl
    · exact z_selp (z := ⟨"SlicedReads$Coder", "bit", "(II)I"⟩) (w := ⟨"SlicedReads$Coder", "bit", "(II)I"⟩) ⟨by decide, by decide⟩ (hts _ (List.mem_of_getElem? (i := 273) (by decide +kernel))) rfl (hts _ (List.mem_of_getElem? (i := 315) (by decide +kernel))) (hts _ (List.mem_of_getElem? (i := 316) (by decide +kernel)))
    · exact z_selp (z := ⟨"SlicedReads$Coder", "bit", "(II)I"⟩) (w := ⟨"SlicedReads$Coder", "bit", "(II)I"⟩) ⟨by decide, by decide⟩ (hts _ (List.mem_of_getElem? (i := 273) (by decide +kernel))) rfl (hts _ (List.mem_of_getElem? (i := 319) (by decide +kernel))) (hts _ (List.mem_of_getElem? (i := 320) (by decide +kernel)))
    · exact z_selp (z := ⟨"SlicedReads$Coder", "bit", "(II)I"⟩) (w := ⟨"SlicedReads$Coder", "bit", "(II)I"⟩) ⟨by decide, by decide⟩ (hts _ (List.mem_of_getElem? (i := 274) (by decide +kernel))) rfl (hts _ (List.mem_of_getElem? (i := 315) (by decide +kernel))) (hts _ (List.mem_of_getElem? (i := 316) (by decide +kernel)))
    · exact z_selp (z := ⟨"SlicedReads$Coder", "bit", "(II)I"⟩) (w := ⟨"SlicedReads$Coder", "bit", "(II)I"⟩) ⟨by decide, by decide⟩ (hts _ (List.mem_of_getElem? (i := 274) (by decide +kernel))) rfl (hts _ (List.mem_of_getElem? (i := 319) (by decide +kernel))) (hts _ (List.mem_of_getElem? (i := 320) (by decide +kernel)))
  · exact hts w (List.mem_filter.mp h).1
theorem z_arr {ty : FieldType} (h : (Cond.arrayClass ty).before args s = true) : ∃ cA : ClassId, ArrOfT s cA ty ∧ s.vm.findClass ("[" ++ ty.toString) = some cA := by
  obtain ⟨cA, kA, comp, h1, h2, h3⟩ := Cond.arrayClass_spec h
  exact ⟨cA, fun n z => ⟨fun k h => (by cases h), kA, h2, comp, h3⟩, h1⟩
theorem z_arO {C : String} (h : (Cond.arrayOver (.object C)).before args s = true) : ∃ cA : ClassId, ArrOfT s cA (.object C) ∧ va_RA s cA (.object C) := by
  obtain ⟨comp, cA, kA, h1, -, h3, h4, h5⟩ := Cond.arrayOver_spec h
  exact ⟨cA, fun n z => ⟨fun k h => (by cases h), kA, h3, comp, h4⟩, kA, comp, h3, h4, h1, h5⟩
theorem z_strs : ∀ x ∈ zStr, Cond.stringRef x.1 x.2.1 x.2.2 ∈ lw_tbl ∧ x.1 = "SlicedReads" := by
  intro x hx
  simp only [zStr, List.mem_cons, List.not_mem_nil, or_false] at hx
  rcases hx with rfl | rfl | rfl | rfl | rfl | rfl | rfl | rfl | rfl | rfl | rfl | rfl | rfl | rfl | rfl | rfl | rfl | rfl
  · exact ⟨List.mem_of_getElem? (i := 408) (by decide +kernel), rfl⟩
  · exact ⟨List.mem_of_getElem? (i := 444) (by decide +kernel), rfl⟩
  · exact ⟨List.mem_of_getElem? (i := 460) (by decide +kernel), rfl⟩
  · exact ⟨List.mem_of_getElem? (i := 488) (by decide +kernel), rfl⟩
  · exact ⟨List.mem_of_getElem? (i := 506) (by decide +kernel), rfl⟩
  · exact ⟨List.mem_of_getElem? (i := 518) (by decide +kernel), rfl⟩
  · exact ⟨List.mem_of_getElem? (i := 527) (by decide +kernel), rfl⟩
  · exact ⟨List.mem_of_getElem? (i := 546) (by decide +kernel), rfl⟩
  · exact ⟨List.mem_of_getElem? (i := 547) (by decide +kernel), rfl⟩
  · exact ⟨List.mem_of_getElem? (i := 559) (by decide +kernel), rfl⟩
  · exact ⟨List.mem_of_getElem? (i := 560) (by decide +kernel), rfl⟩
  · exact ⟨List.mem_of_getElem? (i := 568) (by decide +kernel), rfl⟩
  · exact ⟨List.mem_of_getElem? (i := 577) (by decide +kernel), rfl⟩
  · exact ⟨List.mem_of_getElem? (i := 585) (by decide +kernel), rfl⟩
  · exact ⟨List.mem_of_getElem? (i := 597) (by decide +kernel), rfl⟩
  · exact ⟨List.mem_of_getElem? (i := 643) (by decide +kernel), rfl⟩
  · exact ⟨List.mem_of_getElem? (i := 651) (by decide +kernel), rfl⟩
  · exact ⟨List.mem_of_getElem? (i := 652) (by decide +kernel), rfl⟩
theorem z_ncs (h : (Jvm.Cond.and given_1 narrow_1).before args s = true) : ∀ x ∈ zNcs, va_Nc x.1 x.2 s := by
  have hs := flat_of_before _ h
  intro x hx
  simp only [zNcs, List.mem_cons, List.not_mem_nil, or_false] at hx
  rcases hx with rfl | rfl | rfl | rfl | rfl | rfl | rfl | rfl | rfl | rfl | rfl | rfl
  · exact va_Nc.of (C := "java/lang/IllegalArgumentException") (T := "java/lang/IllegalStateException") (hs _ (by decide +kernel))
  · exact va_Nc.of (C := "java/lang/IllegalArgumentException") (T := "java/lang/UnsupportedOperationException") (hs _ (by decide +kernel))
  · exact va_Nc.of (C := "java/lang/IllegalArgumentException") (T := "java/lang/IndexOutOfBoundsException") (hs _ (by decide +kernel))
  · exact va_Nc.of (C := "java/lang/IllegalStateException") (T := "java/lang/IllegalArgumentException") (hs _ (by decide +kernel))
  · exact va_Nc.of (C := "java/lang/IllegalStateException") (T := "java/lang/UnsupportedOperationException") (hs _ (by decide +kernel))
  · exact va_Nc.of (C := "java/lang/IllegalStateException") (T := "java/lang/IndexOutOfBoundsException") (hs _ (by decide +kernel))
  · exact va_Nc.of (C := "java/lang/UnsupportedOperationException") (T := "java/lang/IllegalArgumentException") (hs _ (by decide +kernel))
  · exact va_Nc.of (C := "java/lang/UnsupportedOperationException") (T := "java/lang/IllegalStateException") (hs _ (by decide +kernel))
  · exact va_Nc.of (C := "java/lang/UnsupportedOperationException") (T := "java/lang/IndexOutOfBoundsException") (hs _ (by decide +kernel))
  · exact va_Nc.of (C := "java/lang/IndexOutOfBoundsException") (T := "java/lang/IllegalArgumentException") (hs _ (by decide +kernel))
  · exact va_Nc.of (C := "java/lang/IndexOutOfBoundsException") (T := "java/lang/IllegalStateException") (hs _ (by decide +kernel))
  · exact va_Nc.of (C := "java/lang/IndexOutOfBoundsException") (T := "java/lang/UnsupportedOperationException") (hs _ (by decide +kernel))
theorem zSt.of {C nm ds : String} {A : Nat → Prop} (hl : (Cond.laysStatic C nm ds).before args s = true) (hini : (Cond.initialized C).before args s = true) (h : (Cond.isRef (.static C nm ds)).before args s = true) (hA : ∀ a : Nat, a < s.heap.size → ¬ A a) : zSt A C nm ds s s.heap := by
  obtain ⟨c, k, i, f, a, cell, h1, h2, h3, h4, h5, h6, h7, h8, h9⟩ := Cond.laysStatic_spec hl
  exact ⟨va_Zqof hl hini h hA, c, k, i, f, a, cell, ⟨h1, h2, h3, h4⟩, h5, ⟨h6, h7, h8⟩, h9, hA a (Array.getElem?_eq_some_iff.mp h5).1⟩
/-- the tables and the heap at the beginning -/
theorem z_E (hts : ∀ w ∈ lw_tbl, w.before args s = true) (hgv : (Jvm.Cond.and given_1 narrow_1).before args s = true) : ∃ E : zE, zlo E = s.heap.size ∧ zK E s ∧ zOld E s s.heap := by
  have hz := z_hts hts
  have hs := flat_of_before _ hgv
  have hD : ∀ c : Nat, ∃ (cC : ClassId) (iS : Nat → Nat), ∀ r : vw_C, zCl[c]? = some r → u_Kn s r.1 r.2.1 r.2.2 cC iS := by
    intro c
    cases hc : zCl[c]? with
    | none => exact ⟨0, fun _ => 0, fun r h => nomatch h⟩
    | some r =>
      obtain ⟨cC, iS, h⟩ := u_known hz (zCl_ws hc) (hz _ (zCl_ins hc))
      exact ⟨cC, iS, fun r' h' => by cases Option.some.inj h'; exact h⟩
  obtain ⟨cI, hI1, hI2⟩ := z_arr (hz _ ac_int)
  obtain ⟨cJ, hJ1, hJ2⟩ := z_arr (hz _ ac_long)
  have hao : (Cond.arrayOver (.object zRead)).before args s = true := hts _ (List.mem_of_getElem? (i := 84) (by decide +kernel))
  obtain ⟨cR, hR1, hR2⟩ := z_arO hao
  refine ⟨((fun c => (hD c).choose, fun c => (hD c).choose_spec.choose), cI, cJ, cR, s.heap.size), rfl, ⟨⟨fun c q hq => (hD c).choose_spec.choose_spec q hq, fun k q hq => ?_⟩, fun w hw => ?_, va_AO.of hao, fun x hx => ?_, z_ncs hgv⟩, ?_⟩
  · match k, hq with
    | 0, hq => cases Option.some.inj hq; exact ⟨hI1, hI2⟩
    | 1, hq => cases Option.some.inj hq; exact ⟨hJ1, hJ2⟩
    | 2, hq => cases Option.some.inj hq; exact ⟨hR1, hR2⟩
    | k + 3, hq => exact absurd hq (by simp)
  · exact va_Nw.of (zIsN_tab (zNs_is w hw)) (hts w (List.mem_filter.mp hw).1)
  · obtain ⟨h1, h2⟩ := z_strs x hx
    obtain ⟨cC, kC, hfC, -⟩ := Cond.instantiable_spec (hz _ ins_6)
    rw [← h2] at hfC
    obtain ⟨-, -, -, a, -, -, -, -, -, h9⟩ := Cond.stringRef_spec hfC (hts _ h1)
    exact ⟨a, vk_R.of (hts _ h1) h9⟩
  · have hA : ∀ a : Nat, a < s.heap.size → ¬ zA (((fun c => (hD c).choose, fun c => (hD c).choose_spec.choose), cI, cJ, cR, s.heap.size) : zE) a := fun a ha h => Nat.lt_irrefl _ (Nat.lt_of_lt_of_le ha h)
    exact ⟨zSt.of (hts _ (List.mem_of_getElem? (i := 393) (by decide +kernel))) (hts _ (List.mem_of_getElem? (i := 40) (by decide +kernel))) (hs _ (by decide +kernel)) hA, zSt.of (hts _ (List.mem_of_getElem? (i := 395) (by decide +kernel))) (hts _ (List.mem_of_getElem? (i := 40) (by decide +kernel))) (hs _ (by decide +kernel)) hA⟩
end ZS
