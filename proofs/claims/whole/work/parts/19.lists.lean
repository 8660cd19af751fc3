/-! an edit more -/
def mAdd (es : List (Nat × Nat)) (e : Nat × Nat) : List (Nat × Nat) := if (e.1 = 0 ∨ e.1 = 3) ∧ 0 < es.length ∧ mK es (es.length - 1) = e.1 then es.dropLast ++ [(e.1, mV es (es.length - 1) + e.2)] else es ++ [e]
theorem mAdd_j {es : List (Nat × Nat)} {e : Nat × Nat} (h : mJn es e.1) : mAdd es e = es.dropLast ++ [(e.1, mV es (es.length - 1) + e.2)] := if_pos h
theorem mAdd_n {es : List (Nat × Nat)} {e : Nat × Nat} (h : ¬ mJn es e.1) : mAdd es e = es ++ [e] := if_neg h
theorem m_last {es : List (Nat × Nat)} (h : 0 < es.length) : es = es.dropLast ++ [(mK es (es.length - 1), mV es (es.length - 1))] := by
  have hne : es ≠ [] := by intro e; rw [e] at h; simp at h
  have h1 := List.dropLast_concat_getLast hne
  have h2 : es.getLast hne = es.getD (es.length - 1) (0, 0) := by
    rw [List.getLast_eq_getElem, List.getD_eq_getElem?_getD, List.getElem?_eq_getElem (by omega)]
    rfl
  rw [h2] at h1
  exact h1.symm
theorem mK_lo {a b : List (Nat × Nat)} {j : Nat} (h : j < a.length) : mK (a ++ b) j = mK a j := by
  unfold mK; rw [List.getD_eq_getElem?_getD, List.getD_eq_getElem?_getD, List.getElem?_append_left h]
theorem mV_lo {a b : List (Nat × Nat)} {j : Nat} (h : j < a.length) : mV (a ++ b) j = mV a j := by
  unfold mV; rw [List.getD_eq_getElem?_getD, List.getD_eq_getElem?_getD, List.getElem?_append_left h]
theorem mK_hi {a : List (Nat × Nat)} {e : Nat × Nat} : mK (a ++ [e]) a.length = e.1 := by
  unfold mK; rw [List.getD_eq_getElem?_getD, List.getElem?_append_right (Nat.le_refl _)]; simp
theorem mV_hi {a : List (Nat × Nat)} {e : Nat × Nat} : mV (a ++ [e]) a.length = e.2 := by
  unfold mV; rw [List.getD_eq_getElem?_getD, List.getElem?_append_right (Nat.le_refl _)]; simp
theorem mCnt_add {k n m : Nat} (h : k = 0 ∨ k = 3) : mCnt (k, n + m) = mCnt (k, n) + mCnt (k, m) := by
  unfold mCnt; dsimp only; rcases h with rfl | rfl <;> simp
theorem mAdv_add {k n m : Nat} (h : k = 0 ∨ k = 3) : mAdv (k, n + m) = mAdv (k, n) + mAdv (k, m) := by
  unfold mAdv; dsimp only; rw [if_pos h, if_pos h, if_pos h]
theorem mBc_add (es : List (Nat × Nat)) (e : Nat × Nat) : mBc (mAdd es e) = mBc es + mCnt e := by
  by_cases h : mJn es e.1
  · have hl := m_last h.2.1
    rw [mAdd_j h, mBc_app]
    conv => rhs; rw [hl, mBc_app]
    simp only [mBc, Nat.add_zero]
    rw [mCnt_add h.1, h.2.2]
    obtain ⟨k, m⟩ := e
    dsimp only
    omega
  · rw [mAdd_n h, mBc_app]; simp [mBc]
theorem mPs_add (es : List (Nat × Nat)) (e : Nat × Nat) : mPs (mAdd es e) = mPs es + mAdv e := by
  by_cases h : mJn es e.1
  · have hl := m_last h.2.1
    rw [mAdd_j h, mPs_app]
    conv => rhs; rw [hl, mPs_app]
    simp only [mPs, Nat.add_zero]
    rw [mAdv_add h.1, h.2.2]
    obtain ⟨k, m⟩ := e
    dsimp only
    omega
  · rw [mAdd_n h, mPs_app]; simp [mPs]
theorem mBase_app (ref : Nat → Nat) : ∀ (a b : List (Nat × Nat)) (at_ k : Nat), mBase ref at_ (a ++ b) k = if k < mBc a then mBase ref at_ a k else mBase ref (at_ + mPs a) b (k - mBc a)
  | [], b, at_, k => by simp [mBc, mPs]
  | e :: a, b, at_, k => by
    have hb : mBc (e :: a) = mCnt e + mBc a := rfl
    have hp : mPs (e :: a) = mAdv e + mPs a := rfl
    have e1 : mBase ref at_ ((e :: a) ++ b) k = if k < mCnt e then (if e.1 = 0 then ref (at_ + k) else e.2) else mBase ref (at_ + mAdv e) (a ++ b) (k - mCnt e) := rfl
    have e2 : mBase ref at_ (e :: a) k = if k < mCnt e then (if e.1 = 0 then ref (at_ + k) else e.2) else mBase ref (at_ + mAdv e) a (k - mCnt e) := rfl
    rw [e1]
    by_cases h : k < mCnt e
    · rw [if_pos h, if_pos (by omega : k < mBc (e :: a)), e2, if_pos h]
    · rw [if_neg h, mBase_app ref a b (at_ + mAdv e) (k - mCnt e)]
      by_cases h2 : k < mBc (e :: a)
      · rw [if_pos h2, if_pos (by omega : k - mCnt e < mBc a), e2, if_neg h]
      · rw [if_neg h2, if_neg (by omega : ¬ k - mCnt e < mBc a), hp, Nat.add_assoc, hb, Nat.sub_sub]
theorem mBase_lo {ref : Nat → Nat} {at_ : Nat} {es : List (Nat × Nat)} {e : Nat × Nat} {k : Nat} (hk : k < mBc es) : mBase ref at_ (mAdd es e) k = mBase ref at_ es k := by
  by_cases h : mJn es e.1
  · have hl := m_last h.2.1
    rw [mAdd_j h, mBase_app]
    conv => rhs; rw [hl, mBase_app]
    have hb : mBc es = mBc es.dropLast + mCnt (mK es (es.length - 1), mV es (es.length - 1)) := by
      conv => lhs; rw [hl, mBc_app]
      simp [mBc]
    by_cases c : k < mBc es.dropLast
    · rw [if_pos c, if_pos c]
    · rw [if_neg c, if_neg c]
      simp only [mBase]
      rw [h.2.2] at hb
      rw [h.2.2, mCnt_add h.1, if_pos (show k - mBc es.dropLast < mCnt (e.1, mV es (es.length - 1)) + mCnt (e.1, e.2) by omega), if_pos (show k - mBc es.dropLast < mCnt (e.1, mV es (es.length - 1)) by omega)]
      by_cases c2 : e.1 = 0
      · rw [if_pos c2, if_pos c2]
      · exfalso
        rcases h.1 with q | q
        · exact c2 q
        · have : mCnt (e.1, mV es (es.length - 1)) = 0 := by unfold mCnt; simp [q]
          omega
  · rw [mAdd_n h, mBase_app, if_pos hk]
theorem mBase_hi {ref : Nat → Nat} {at_ : Nat} {es : List (Nat × Nat)} {e : Nat × Nat} {j : Nat} (hj : j < mCnt e) : mBase ref at_ (mAdd es e) (mBc es + j) = if e.1 = 0 then ref (at_ + mPs es + j) else e.2 := by
  by_cases h : mJn es e.1
  · have hl := m_last h.2.1
    have hb : mBc es = mBc es.dropLast + mCnt (mK es (es.length - 1), mV es (es.length - 1)) := by
      conv => lhs; rw [hl, mBc_app]
      simp [mBc]
    have hp : mPs es = mPs es.dropLast + mAdv (mK es (es.length - 1), mV es (es.length - 1)) := by
      conv => lhs; rw [hl, mPs_app]
      simp [mPs]
    rw [h.2.2] at hb hp
    have c2 : e.1 = 0 := by
      rcases h.1 with q | q
      · exact q
      · exfalso
        have : mCnt e = 0 := by unfold mCnt; simp [q]
        omega
    have e3 : mCnt (e.1, mV es (es.length - 1)) = mV es (es.length - 1) := by unfold mCnt; simp [c2]
    have e4 : mAdv (e.1, mV es (es.length - 1)) = mV es (es.length - 1) := by unfold mAdv; simp [c2]
    have e5 : mCnt (e.1, mV es (es.length - 1) + e.2) = mV es (es.length - 1) + e.2 := by unfold mCnt; simp [c2]
    have e6 : mCnt e = e.2 := by unfold mCnt; simp [c2]
    rw [mAdd_j h, mBase_app, if_neg (by omega)]
    simp only [mBase]
    rw [if_pos (by omega), if_pos c2, if_pos c2]
    congr 1
    omega
  · rw [mAdd_n h, mBase_app, if_neg (by omega)]
    simp only [mBase]
    rw [show mBc es + j - mBc es = j by omega, if_pos hj]
theorem mAdd_len {es : List (Nat × Nat)} {e : Nat × Nat} (h : mJn es e.1) : (mAdd es e).length = es.length := by
  rw [mAdd_j h, List.length_append, List.length_dropLast]
  have := h.2.1
  simp
  omega
theorem mAdd_len' {es : List (Nat × Nat)} {e : Nat × Nat} (h : ¬ mJn es e.1) : (mAdd es e).length = es.length + 1 := by rw [mAdd_n h]; simp
theorem mAdd_K {es : List (Nat × Nat)} {e : Nat × Nat} (h : mJn es e.1) {j : Nat} (hj : j < es.length) : mK (mAdd es e) j = mK es j := by
  have hd : es.dropLast.length = es.length - 1 := List.length_dropLast
  rw [mAdd_j h]
  by_cases c : j < es.length - 1
  · rw [mK_lo (by omega)]
    conv => rhs; rw [m_last h.2.1, mK_lo (by omega)]
  · have : j = es.dropLast.length := by omega
    subst this
    rw [mK_hi, hd, h.2.2]
theorem mAdd_V {es : List (Nat × Nat)} {e : Nat × Nat} (h : mJn es e.1) {j : Nat} (hj : j < es.length - 1) : mV (mAdd es e) j = mV es j := by
  have hd : es.dropLast.length = es.length - 1 := List.length_dropLast
  rw [mAdd_j h, mV_lo (by omega)]
  conv => rhs; rw [m_last h.2.1, mV_lo (by omega)]
theorem mAdd_Vl {es : List (Nat × Nat)} {e : Nat × Nat} (h : mJn es e.1) : mV (mAdd es e) (es.length - 1) = mV es (es.length - 1) + e.2 := by
  have hd : es.dropLast.length = es.length - 1 := List.length_dropLast
  rw [mAdd_j h]
  conv => lhs; rw [← hd]
  rw [mV_hi, hd]
theorem mAdd_ok {ref : Nat → Nat} {len : Nat} {r : mRd} {e : Nat × Nat} (h : mOk ref len r) (hf : mFit ref len (r.1 + mPs r.2) e) (hr : mRoom r.2 e) : mOk ref len (r.1, mAdd r.2 e) := by
  obtain ⟨h1, h2, h3, h4⟩ := h
  refine ⟨h1, ?_, by dsimp only; rw [mBc_add]; exact hr.1, ?_⟩
  · dsimp only
    by_cases c : mJn r.2 e.1
    · have hl := m_last c.2.1
      rw [mAdd_j c]
      rw [hl] at h2
      rw [mFits_app] at h2 ⊢
      refine ⟨h2.1, ?_⟩
      have hp : mPs r.2 = mPs r.2.dropLast + mAdv (mK r.2 (r.2.length - 1), mV r.2 (r.2.length - 1)) := by
        conv => lhs; rw [hl, mPs_app]
        simp [mPs]
      have h5 := h2.2
      simp only [mFits, and_true] at h5 ⊢
      obtain ⟨k, m⟩ := e
      unfold mFit at h5 hf ⊢
      dsimp only at h5 hf c ⊢
      rw [c.2.2] at h5 hp
      have h6 : mAdv (k, mV r.2 (r.2.length - 1)) = mV r.2 (r.2.length - 1) := by unfold mAdv; rw [if_pos c.1]
      have hk := c.1
      left
      refine ⟨hk, ?_, ?_⟩ <;> omega
    · rw [mAdd_n c, mFits_app]
      exact ⟨h2, by simp only [mFits, and_true]; exact hf⟩
  · dsimp only
    by_cases c : mJn r.2 e.1
    · rw [mAdd_len c]; exact h4
    · rw [mAdd_len' c]
      rcases hr.2 with q | q
      · exact absurd q c
      · omega
theorem mKs_add {es : List (Nat × Nat)} {e : Nat × Nat} (h : mKs es) (he : e.1 < 4) : mKs (mAdd es e) := by
  intro j hj
  by_cases c : mJn es e.1
  · rw [mAdd_len c] at hj
    rw [mAdd_K c hj]; exact h j hj
  · rw [mAdd_len' c] at hj
    rw [mAdd_n c]
    by_cases q : j < es.length
    · rw [mK_lo q]; exact h j q
    · have : j = es.length := by omega
      subst this
      rw [mK_hi]; exact he
