/-! more rows: System.arraycopy of ints, Math.min, tableswitch -/
def zcp (M : zM) (a0 a sp dp c : Nat) : zM := (va_up M.1 a (va_cpy (M.1 a0) (M.1 a) sp dp c), M.2)
theorem zi_cp (M : zM) (a0 a sp dp c b j : Nat) : zi (zcp M a0 a sp dp c) b j = if b = a ∧ dp ≤ j ∧ j < dp + c then zi M a0 (sp + (j - dp)) else zi M b j := by
  simp only [zi, zcp, va_up, va_cpy]
  by_cases h : b = a
  · subst h; simp [va_cpy]
  · simp [h]
theorem zcl_cp (M : zM) (a0 a sp dp c : Nat) : zcl (zcp M a0 a sp dp c) a = (va_cpy (M.1 a0) (M.1 a) sp dp c, M.2.1 a, M.2.2 a) := by simp [zcl, zcp, va_up]
theorem zcl_cp_n (M : zM) (a0 a sp dp c : Nat) : ∀ b, b ≠ a → zcl (zcp M a0 a sp dp c) b = zcl M b := fun b h => by simp [zcl, zcp, va_up, h]
theorem z_nat (k : Nat) (h : k < 2 ^ 31) : (nI k).toInt = (k : Int) := nI_toInt h
section ZE
variable {f : zF} {E : zE} {Y : zY} {d : Nat} {kk : Nat × Nat} {Γ : zG} {n : Nat} {k : Nat × Nat} {M : zM} {pc q : Nat} {lc : List (Nat × Value)} {st : List Value}
theorem g_copy {i a0 a n0 n1 sp dp c : Nat} (hx : zOk f E Y d kk) (hd : decode Y.2.1 pc = .ok (.invokestatic i, 3)) (hq : pc + 3 = q) (hd1 : 1 ≤ d) (hw1 : Cond.methodLink Y.1.cls i arraycopyName ∈ zWs) (hw2 : Cond.native arraycopyName ∈ zWs) (hw3 : Cond.static arraycopyName ∈ zWs) (hw4 : Cond.initialized "java/lang/System" ∈ zWs)
    (hg0 : Γ a0 = some (1, n0)) (hg1 : Γ a = some (1, n1)) (h4 : sp + c ≤ n0) (h5 : dp + c ≤ n1) (hn0 : n0 < 2 ^ 31) (hn1 : n1 < 2 ^ 31) (hst : (st.map fun v => v.category).sum ≤ 8)
    (kk9 : zGo f E Γ n k (zcp M a0 a sp dp c) q lc st) : zGo f E Γ n k M pc lc (.int (nI c) :: .int (nI dp) :: .ref a :: .int (nI sp) :: .ref a0 :: st) := by
  obtain ⟨⟨p, l, e, R, s, m, args, below, meth, co⟩, nL, Q⟩ := f
  subst hq
  intro H locs ls hz hR hS hl T hT X
  have hc0 : H[a0]? = some (arrV E.2.1 n0 (fun j => .int (M.1 a0 j))) := (hR a0 _ hg0).1
  have hc1 : H[a]? = some (arrV E.2.1 n1 (fun j => .int (M.1 a j))) := (hR a _ hg1).1
  have hao := z_own hR hg1
  obtain ⟨hexec, hb, hml, hown, hts, hK, -, -, -, -, -, hf1, hf2, -⟩ := hx
  have hA := (hK.1.2 0 _ rfl).1
  obtain ⟨-, k0, hk0, cm0, hkk0⟩ := hA n0 (fun j => .int (M.1 a0 j))
  obtain ⟨-, k1, hk1, cm1, hkk1⟩ := hA n1 (fun j => .int (M.1 a j))
  have cs : (nI sp).toNatClampNeg = sp := nI_clamp (by omega)
  have cd : (nI dp).toNatClampNeg = dp := nI_clamp (by omega)
  have cc : (nI c).toNatClampNeg = c := nI_clamp (by omega)
  have hlo : 40 * d ≤ R.locals := hf2
  have hfr : d ≤ R.frames := hf1
  obtain ⟨vm', X', step⟩ := X.arraycopy hexec hown (hts _ hw1) (hts _ hw2) (hts _ hw3) (hts _ hw4) (src := a0) (dst := a) (cs := arrV E.2.1 n0 (fun j => .int (M.1 a0 j))) (cd := arrV E.2.1 n1 (fun j => .int (M.1 a j))) (srcPos := nI sp) (destPos := nI dp) (n := nI c) (by rw [hT]; exact hc0) (by rw [hT]; exact hc1)
    (fun _ h => by cases h) (fun _ h => by cases h) (fun h => by cases h) (fun h => by cases h) hk0 hk1 hkk0 hkk1 (by simp [refKind]) (nI_pos (by omega)) (nI_pos (by omega)) (nI_pos (by omega))
    (by rw [nI_toInt (by omega), nI_toInt (by omega), arrV_size]; omega)
    (by rw [nI_toInt (by omega), nI_toInt (by omega), arrV_size]; omega)
    (fun vm₁ _ i hi => by
      rw [cc] at hi
      have e9 : (arrV E.2.1 n0 (fun j => .int (M.1 a0 j))).slots.getD ((nI sp).toNatClampNeg + i) .null = .int (M.1 a0 (sp + i)) := by
        rw [cs, Array.getD_eq_getD_getElem?, arrV_read _ _ (by omega)]
        rfl
      rw [e9]
      exact ⟨rfl, trivial⟩)
    (g := F0 m pc ls (.int (nI c) :: .int (nI dp) :: .ref a :: .int (nI sp) :: .ref a0 :: st)) rfl (hl.1.trans hml.symm) (rest := st) rfl (by rw [hb]; exact hd) (Nat.le_trans hd1 hfr)
    (by
      have h8 : nativeFrameWords "java/lang/System" "arraycopy" 5 + 11 ≤ 30 := by decide +kernel
      have h9 : 40 * 1 ≤ 40 * d := Nat.mul_le_mul_left _ hd1
      show 2 * 0 + _ + _ ≤ _
      omega)
  have e1 : copied (arrV E.2.1 n0 (fun j => .int (M.1 a0 j))) (arrV E.2.1 n1 (fun j => .int (M.1 a j))) (nI sp) (nI dp) (nI c) = arrV E.2.1 n1 (fun j => .int (va_cpy (M.1 a0) (M.1 a) sp dp c j)) := by
    have h9 := va_copied (fun z => Value.int z) E.2.1 E.2.1 (n0 := n0) (n1 := n1) (sp := sp) (dp := dp) (n := c) (M.1 a0) (M.1 a) h4
    unfold copied
    rw [cs, cd, cc]
    exact h9
  rw [e1] at X' step
  have hl9 : a < H.size := (Array.getElem?_eq_some_iff.mp hc1).1
  generalize hH1 : H.setIfInBounds a (arrV E.2.1 n1 (fun j => .int (va_cpy (M.1 a0) (M.1 a) sp dp c j))) = H1
  have hheap : ((T.setVm vm').setCell a (arrV E.2.1 n1 (fun j => .int (va_cpy (M.1 a0) (M.1 a) sp dp c j)))).heap = H1 := by rw [← hH1, ← hT]; rfl
  have oq : ∀ q : Nat, q ≠ a → H1[q]? = H[q]? := fun q hq => by rw [← hH1]; simp [Array.getElem?_setIfInBounds, Ne.symm hq]
  have oz : H1.size = H.size := by rw [← hH1]; simp
  have oa : H1[a]? = some (arrV E.2.1 n1 (fun j => .int (va_cpy (M.1 a0) (M.1 a) sp dp c j))) := by rw [← hH1]; simp [Array.getElem?_setIfInBounds, hl9]
  obtain ⟨t, a1, b1⟩ := kk9 H1 _ ls (oz.trans hz) (hR.put hg1 (zcl_cp_n _ _ _ _ _ _) (by rw [zcl_cp]; exact oa) oq) ⟨by rw [oz]; exact hS.1, fun q g1 g2 => by
      rw [oq q (fun e => g2 (by rw [e]; exact hao))]
      exact hS.2.1 q g1 g2, fun q hq => by
      rcases List.mem_append.mp hq with h | h
      · exact hS.2.2 q h
      · obtain ⟨z, -, hz⟩ := List.mem_map.mp h
        rw [← hz]
        exact hao⟩ hl _ hheap X'
  exact ⟨t, step t a1, b1⟩
theorem g_min {i : Nat} {x y v : Int32} (hx : zOk f E Y d kk) (hd : decode Y.2.1 pc = .ok (.invokestatic i, 3)) (hq : pc + 3 = q) (hd1 : 1 ≤ d) (hk1 : k.1 ≤ kk.1) (hk2 : k.2 ≤ kk.2) (hw1 : Cond.methodLink Y.1.cls i Lib.Math.min.name ∈ zWs) (hw2 : Cond.static Lib.Math.min.name ∈ zWs) (hw3 : Cond.initialized "java/lang/Math" ∈ zWs) (hw4 : Cond.code Lib.Math.min.name Lib.Math.min.code 2 (some .int) ∈ zWs) (hst : (st.map fun v => v.category).sum ≤ 8) (hv : (if y < x then y else x) = v)
    (kk9 : zGo f E Γ n k M q lc (.int v :: st)) : zGo f E Γ n k M pc lc (.int y :: .int x :: st) := by
  obtain ⟨⟨p, l, e, R, s, m, args, below, meth, co⟩, nL, Q⟩ := f
  subst hq; subst hv
  intro H locs ls hz hR hS hl
  have K := kk9 H locs ls hz hR hS hl
  obtain ⟨hexec, hb, hml, hown, hts, hK, -, -, -, -, -, hf1, hf2, ⟨hc1, -⟩, hc2⟩ := hx
  have hlo : 40 * d ≤ R.locals := hf2
  have hfr : d ≤ R.frames := hf1
  have h9 : 40 * 1 ≤ 40 * d := Nat.mul_le_mul_left _ hd1
  exact va_mmin hexec hb (hml.trans hl.1.symm) hown (hts _ hw1) (hts _ hw2) (hts _ hw3) (hts _ hw4) (Nat.le_trans hd1 hfr) (by omega) (Nat.le_trans hk1 hc1) (Nat.le_trans hk2 hc2) hd K
theorem g_tabOut {dflt lo hi : Int} {offs : Array Int} {len t : Nat} {x : Int32} (hx : zOk f E Y d kk) (hd : decode Y.2.1 pc = .ok (.tableswitch dflt lo hi offs, len)) (h : x.toInt < lo ∨ hi < x.toInt) (ht : (pc : Int) + dflt = (t : Int)) (kk9 : zGo f E Γ n k M t lc st) : zGo f E Γ n k M pc lc (.int x :: st) := by
  obtain ⟨⟨p, l, e, R, s, m, args, below, meth, co⟩, nL, Q⟩ := f
  intro H locs ls hz hR hS hl
  exact lv_tableOut hx.1 hx.2.1 hd h ht (kk9 H locs ls hz hR hS hl)
theorem g_tabIn {dflt lo hi : Int} {offs : Array Int} {len t : Nat} {x : Int32} {off : Int} (hx : zOk f E Y d kk) (hd : decode Y.2.1 pc = .ok (.tableswitch dflt lo hi offs, len)) (h1 : ¬ x.toInt < lo) (h2 : ¬ hi < x.toInt) (ho : offs[(x.toInt - lo).toNat]? = some off) (ht : (pc : Int) + off = (t : Int)) (kk9 : zGo f E Γ n k M t lc st) : zGo f E Γ n k M pc lc (.int x :: st) := by
  obtain ⟨⟨p, l, e, R, s, m, args, below, meth, co⟩, nL, Q⟩ := f
  intro H locs ls hz hR hS hl
  exact lv_tableIn hx.1 hx.2.1 hd h1 h2 ho ht (kk9 H locs ls hz hR hS hl)
end ZE
