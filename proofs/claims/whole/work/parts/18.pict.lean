/-! what the memory shows: a read, the reference -/
def mK (es : List (Nat × Nat)) (j : Nat) : Nat := (es.getD j (0, 0)).1
def mV (es : List (Nat × Nat)) (j : Nat) : Nat := (es.getD j (0, 0)).2
/-- the shape of a Read at a -/
def pSh (Γ : zG) (P : Nat → Nat → Nat) (a : Nat) : Prop := (Γ a = some (0, 3) ∧ Γ (a + 1) = some (1, 12) ∧ Γ (a + 2) = some (1, 12) ∧ Γ (a + 3) = some (1, 20)) ∧ P a 0 = a + 1 ∧ P a 1 = a + 2 ∧ P a 2 = a + 3 ∧ 0 < a
/-- a Read's numbers and edits -/
def pRd (M : zM) (a : Nat) (r : mRd) : Prop := zi M a 3 = nI r.1 ∧ zi M a 4 = nI r.2.length ∧ zi M a 5 = nI (mBc r.2) ∧ zi M a 6 = nI (mPs r.2) ∧ ∀ j, j < r.2.length → zi M (a + 1) j = nI (mK r.2 j) ∧ zi M (a + 2) j = nI (mV r.2 j)
/-- a Read's bases -/
def pBs (M : zM) (a : Nat) (ref : Nat → Nat) (r : mRd) : Prop := ∀ k, k < mBc r.2 → zi M (a + 3) k = nI (mBase ref r.1 r.2 k)
/-- the shape of a Reference at r -/
def pRs (Γ : zG) (P : Nat → Nat → Nat) (r : Nat) : Prop := Γ r = some (0, 5) ∧ Γ (r + 1) = some (1, 160) ∧ P r 0 = r + 1 ∧ 0 < r
def pRf (M : zM) (r len : Nat) (ref : Nat → Nat) : Prop := zi M r 1 = nI len ∧ (∀ j, j < len → zi M (r + 1) j = nI (ref j)) ∧ len ≤ 160 ∧ ∀ j, ref j < 4
/-- ints have changed at the addresses of S alone -/
def zOn (S : Nat → Prop) (M M' : zM) : Prop := M'.2 = M.2 ∧ ∀ a, ¬ S a → M'.1 a = M.1 a
theorem zOn.rf {S : Nat → Prop} {M : zM} : zOn S M M := ⟨rfl, fun _ _ => rfl⟩
theorem zOn.i {S : Nat → Prop} {M M' : zM} (h : zOn S M M') {a : Nat} (ha : ¬ S a) (j : Nat) : zi M' a j = zi M a j := by
  show M'.1 a j = M.1 a j
  rw [h.2 a ha]
theorem zOn.r {S : Nat → Prop} {M M' : zM} (h : zOn S M M') : M'.2.2 = M.2.2 := by rw [h.1]
theorem zOn.l {S : Nat → Prop} {M M' : zM} (h : zOn S M M') : M'.2.1 = M.2.1 := by rw [h.1]
theorem zOn.si {S : Nat → Prop} {M M' : zM} (h : zOn S M M') {a k : Nat} {v : Int32} (ha : S a) : zOn S M (zsi M' a k v) := ⟨h.1, fun b hb => (zi_b (fun e => hb (by rw [e]; exact ha))).trans (h.2 b hb)⟩
theorem zOn.tr {S : Nat → Prop} {M M' M'' : zM} (h : zOn S M M') (h' : zOn S M' M'') : zOn S M M'' := ⟨h'.1.trans h.1, fun b hb => (h'.2 b hb).trans (h.2 b hb)⟩
theorem zOn.mono {S S' : Nat → Prop} {M M' : zM} (h : zOn S M M') (hs : ∀ a, S a → S' a) : zOn S' M M' := ⟨h.1, fun b hb => h.2 b (fun q => hb (hs b q))⟩
theorem pRd.kept {M M' : zM} {a : Nat} {r : mRd} (h : pRd M a r) (h0 : M'.1 a = M.1 a) (h1 : M'.1 (a + 1) = M.1 (a + 1)) (h2 : M'.1 (a + 2) = M.1 (a + 2)) : pRd M' a r := by
  obtain ⟨q1, q2, q3, q4, q5⟩ := h
  have e0 : ∀ j, zi M' a j = zi M a j := fun j => by show M'.1 a j = M.1 a j; rw [h0]
  have e1 : ∀ j, zi M' (a + 1) j = zi M (a + 1) j := fun j => by show M'.1 (a + 1) j = M.1 (a + 1) j; rw [h1]
  have e2 : ∀ j, zi M' (a + 2) j = zi M (a + 2) j := fun j => by show M'.1 (a + 2) j = M.1 (a + 2) j; rw [h2]
  exact ⟨by rw [e0]; exact q1, by rw [e0]; exact q2, by rw [e0]; exact q3, by rw [e0]; exact q4, fun j hj => by rw [e1, e2]; exact q5 j hj⟩
theorem pBs.kept {M M' : zM} {a : Nat} {ref : Nat → Nat} {r : mRd} (h : pBs M a ref r) (h3 : M'.1 (a + 3) = M.1 (a + 3)) : pBs M' a ref r := fun k hk => by
  show M'.1 (a + 3) k = _
  rw [h3]; exact h k hk
theorem pRf.kept {M M' : zM} {r len : Nat} {ref : Nat → Nat} (h : pRf M r len ref) (h0 : M'.1 r = M.1 r) (h1 : M'.1 (r + 1) = M.1 (r + 1)) : pRf M' r len ref := by
  obtain ⟨q1, q2, q3⟩ := h
  exact ⟨by show M'.1 r 1 = _; rw [h0]; exact q1, fun j hj => by show M'.1 (r + 1) j = _; rw [h1]; exact q2 j hj, q3⟩
/-- kind and number, any ints, are an edit that fits -/
def zFit (ref : Nat → Nat) (len at_ : Nat) (x y : Int32) : Prop := ∃ k m : Nat, m < 2 ^ 31 ∧ x = nI k ∧ k < 4 ∧ y = nI m ∧ mFit ref len at_ (k, m)
/-- the last edit is of this kind, which may be made longer -/
def zLen (es : List (Nat × Nat)) (x : Int32) : Prop := (x = nI 0 ∨ x = nI 3) ∧ 0 < es.length ∧ x = nI (mK es (es.length - 1))
def mJn (es : List (Nat × Nat)) (k : Nat) : Prop := (k = 0 ∨ k = 3) ∧ 0 < es.length ∧ mK es (es.length - 1) = k
theorem z4 {x : Int32} : x.toInt < 0 ∨ 3 < x.toInt ∨ ∃ j : Nat, j < 4 ∧ x = nI j := by
  rcases pk_ix x (n := 4) (by omega) with h | h | h
  · refine Or.inl ?_
    have := Int32.lt_iff_toInt_lt.mp h
    simpa using this
  · refine Or.inr (Or.inl ?_)
    have := Int32.le_iff_toInt_le.mp h
    rw [nI_toInt (by omega)] at this
    omega
  · exact Or.inr (Or.inr h)
theorem z4n {x : Int32} (h : x.toInt < 0 ∨ 3 < x.toInt) {k : Nat} (hk : k < 4) : x ≠ nI k := by
  intro e
  rw [e, nI_toInt (by omega)] at h
  omega
theorem z_x0 (x : Int32) : (x = 0) ↔ x = nI 0 := by rw [nI_0]
theorem z_xn0 (x : Int32) : (¬ x = 0) ↔ ¬ x = nI 0 := by rw [nI_0]
/-- the kinds of edits are 0 .. 3 -/
def mKs (es : List (Nat × Nat)) : Prop := ∀ j, j < es.length → mK es j < 4
theorem zLen_iff {es : List (Nat × Nat)} {k : Nat} (hk : k < 4) (hs : mKs es) : zLen es (nI k) ↔ mJn es k := by
  unfold zLen mJn
  constructor
  · rintro ⟨h1, h2, h3⟩
    have h4 := hs (es.length - 1) (by omega)
    have h5 := (nI_eq (by omega) (by omega)).mp h3
    refine ⟨?_, h2, h5.symm⟩
    rcases h1 with h | h
    · exact Or.inl ((nI_eq (by omega) (by omega)).mp h)
    · exact Or.inr ((nI_eq (by omega) (by omega)).mp h)
  · rintro ⟨h1, h2, h3⟩
    refine ⟨?_, h2, by rw [h3]⟩
    rcases h1 with h | h
    · exact Or.inl (by rw [h])
    · exact Or.inr (by rw [h])
def mRoom (es : List (Nat × Nat)) (e : Nat × Nat) : Prop := mBc es + mCnt e ≤ 20 ∧ (mJn es e.1 ∨ es.length < 12)
