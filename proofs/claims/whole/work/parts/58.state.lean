/-! the state of all: what the class's memory and what the reference's memory show of it -/
def sI (len c g k size : Nat) (ref arch : Nat → Nat) (fs hs : Nat → mRd) (ur : mRd) : Prop := (c ≤ 24 ∧ g ≤ 1 ∧ k ≤ 3) ∧ (∀ i, i < c → mOk ref len (fs i)) ∧ (∀ i, i < k → mOk ref len (hs i)) ∧ (g = 1 → mOk ref len ur)
def pI (Γ : zG) (M : zM) (x sh sp : Nat) (len c g k size : Nat) (ref arch : Nat → Nat) (fs hs : Nat → mRd) (ur : mRd) : Prop := pX Γ M.2.2 x sh sp ∧ pRf M (x + 1) len ref ∧ (zi M (x + 3) 1 = nI c ∧ c ≤ 24) ∧ (∀ i, i < c → pRb M (x + 5 + 4 * i) ref len (fs i)) ∧ (zi M x 2 = nI g ∧ g ≤ 1) ∧ (g = 1 → pRb M (x + 5 + 4 * c) ref len ur) ∧ (zi M sh 1 = nI k ∧ k ≤ 3) ∧ (∀ i, i < k → pRb M (sh + 2 + 4 * i) ref len (hs i)) ∧ pAr M (x + 134) size arch
def qI (M : zM) (m : Nat) (len c g k size : Nat) (ref arch : Nat → Nat) (fs hs : Nat → mRd) (ur : mRd) : Prop := qR M m len ref ∧ (zi M m 3 = nI c ∧ c ≤ 24) ∧ (zi M m 4 = nI k ∧ k ≤ 3) ∧ (zi M m 5 = nI g ∧ g ≤ 1) ∧ (∀ i, i < c → qS M m i (fs i) ∧ mOk ref len (fs i)) ∧ (∀ i, i < k → qS M m (24 + i) (hs i) ∧ mOk ref len (hs i)) ∧ (g = 1 → qS M m 30 ur ∧ mOk ref len ur) ∧ qA M m size arch
/-- nothing outside the class's cells, and nothing outside the reference's -/
def kX (x : Nat) (M M' : zM) : Prop := ∀ a, (a < x ∨ x + 141 < a) → M'.1 a = M.1 a ∧ M'.2.1 a = M.2.1 a ∧ M'.2.2 a = M.2.2 a
def kM (m : Nat) (M M' : zM) : Prop := M'.2.2 = M.2.2 ∧ ∀ a, (a < m ∨ m + 12 < a) → M'.1 a = M.1 a ∧ M'.2.1 a = M.2.1 a
theorem kX.rf {x : Nat} {M : zM} : kX x M M := fun _ _ => ⟨rfl, rfl, rfl⟩
theorem kX.tr {x : Nat} {M M' M'' : zM} (h : kX x M M') (h' : kX x M' M'') : kX x M M'' := fun a ha => ⟨(h' a ha).1.trans (h a ha).1, (h' a ha).2.1.trans (h a ha).2.1, (h' a ha).2.2.trans (h a ha).2.2⟩
theorem kM.rf {m : Nat} {M : zM} : kM m M M := ⟨rfl, fun _ _ => ⟨rfl, rfl⟩⟩
theorem kM.tr {m : Nat} {M M' M'' : zM} (h : kM m M M') (h' : kM m M' M'') : kM m M M'' := ⟨h'.1.trans h.1, fun a ha => ⟨(h'.2 a ha).1.trans (h.2 a ha).1, (h'.2 a ha).2.trans (h.2 a ha).2⟩⟩
theorem kF.m {A I L : Nat → Bool} {m : Nat} {M M' : zM} (h : kF A I L m M M') : kM m M M' := ⟨h.1, h.2.1⟩
theorem kX.on {x : Nat} {S : Nat → Prop} {M M' : zM} (h : zOn S M M') (hS : ∀ a, S a → x ≤ a ∧ a ≤ x + 141) : kX x M M' := fun a ha => ⟨h.2 a (fun q => by have := hS a q; omega), by rw [h.1], by rw [h.1]⟩
theorem kX.om {x : Nat} {S : Nat → Prop} {M M' : zM} (h : zOm S M M') (hS : ∀ a, S a → x ≤ a ∧ a ≤ x + 141) : kX x M M' := fun a ha => ⟨(h.2 a (fun q => by have := hS a q; omega)).1, (h.2 a (fun q => by have := hS a q; omega)).2, by rw [h.1]⟩
theorem kX.si {x : Nat} {M M' : zM} (h : kX x M M') {a j : Nat} {v : Int32} (ha : x ≤ a ∧ a ≤ x + 141) : kX x M (zsi M' a j v) := fun b hb => ⟨(zi_b (by omega)).trans (h b hb).1, (h b hb).2.1, (h b hb).2.2⟩
theorem kX.sr {x : Nat} {M M' : zM} (h : kX x M M') {a j v : Nat} (ha : x ≤ a ∧ a ≤ x + 141) : kX x M (zsr M' a j v) := fun b hb => ⟨(h b hb).1, (h b hb).2.1, (va_up_ne _ _ (by omega)).trans (h b hb).2.2⟩
def zNo (A I : Nat → Bool) : Bool := A 1 || A 2 || A 3 || A 4 || A 5 || A 6 || A 7 || A 8 || I 1 || I 3 || I 4 || I 5 || I 12
theorem qI.kp {A I L : Nat → Bool} {m : Nat} {M M' : zM} (h : kF A I L m M M') (hn : zNo A I = false) {len c g k size : Nat} {ref arch : Nat → Nat} {fs hs : Nat → mRd} {ur : mRd} (q : qI M m len c g k size ref arch fs hs ur) : qI M' m len c g k size ref arch fs hs ur := by
  simp only [zNo, Bool.or_eq_false_iff] at hn
  obtain ⟨⟨⟨⟨⟨⟨⟨⟨⟨⟨⟨⟨a1, a2⟩, a3⟩, a4⟩, a5⟩, a6⟩, a7⟩, a8⟩, i1⟩, i3⟩, i4⟩, i5⟩, i12⟩ := hn
  obtain ⟨q1, q2, q3, q4, q5, q6, q7, q8⟩ := q
  exact ⟨q1.kp h a1 i1, ⟨(h.i 3 i3).trans q2.1, q2.2⟩, ⟨(h.i 4 i4).trans q3.1, q3.2⟩, ⟨(h.i 5 i5).trans q4.1, q4.2⟩, fun i hi => ⟨(q5 i hi).1.kp h a2 a3 a4 a5 a6 a7, (q5 i hi).2⟩, fun i hi => ⟨(q6 i hi).1.kp h a2 a3 a4 a5 a6 a7, (q6 i hi).2⟩, fun hg => ⟨(q7 hg).1.kp h a2 a3 a4 a5 a6 a7, (q7 hg).2⟩, q8.kp h a8 i12⟩
theorem qS.cg {m r : Nat} {M M' : zM} (h : ∀ a, m ≤ a → a ≤ m + 12 → M'.1 a = M.1 a) {rd : mRd} (q : qS M m r rd) : qS M' m r rd := by
  have e : ∀ c j, c ≤ 12 → zi M' (m + c) j = zi M (m + c) j := fun c j hc => by
    show M'.1 (m + c) j = M.1 (m + c) j
    rw [h (m + c) (by omega) (by omega)]
  obtain ⟨q1, q2, q3, q4, q5⟩ := q
  exact ⟨(e 2 _ (by omega)).trans q1, (e 3 _ (by omega)).trans q2, (e 4 _ (by omega)).trans q3, (e 5 _ (by omega)).trans q4, fun j hj => ⟨(e 6 _ (by omega)).trans (q5 j hj).1, (e 7 _ (by omega)).trans (q5 j hj).2⟩⟩
/-- what is written elsewhere changes nothing of the reference's -/
theorem qI.cg {m : Nat} {M M' : zM} (h : ∀ a, m ≤ a → a ≤ m + 12 → M'.1 a = M.1 a) {len c g k size : Nat} {ref arch : Nat → Nat} {fs hs : Nat → mRd} {ur : mRd} (q : qI M m len c g k size ref arch fs hs ur) : qI M' m len c g k size ref arch fs hs ur := by
  have e : ∀ c j, c ≤ 12 → zi M' (m + c) j = zi M (m + c) j := fun c j hc => by
    show M'.1 (m + c) j = M.1 (m + c) j
    rw [h (m + c) (by omega) (by omega)]
  have e0 : ∀ j, zi M' m j = zi M m j := fun j => e 0 j (by omega)
  obtain ⟨q1, q2, q3, q4, q5, q6, q7, q8⟩ := q
  exact ⟨⟨(e0 1).trans q1.1, fun j hj => (e 1 j (by omega)).trans (q1.2.1 j hj), q1.2.2⟩, ⟨(e0 3).trans q2.1, q2.2⟩, ⟨(e0 4).trans q3.1, q3.2⟩, ⟨(e0 5).trans q4.1, q4.2⟩, fun i hi => ⟨(q5 i hi).1.cg h, (q5 i hi).2⟩, fun i hi => ⟨(q6 i hi).1.cg h, (q6 i hi).2⟩, fun hg => ⟨(q7 hg).1.cg h, (q7 hg).2⟩, ⟨(e0 12).trans q8.1, fun j hj => (e 8 j (by omega)).trans (q8.2.1 j hj), q8.2.2⟩⟩
/-- the shape of the class's cells, by their references alone -/
theorem pX.cg {Γ : zG} {P P' : Nat → Nat → Nat} {x sh sp : Nat} (h : pX Γ P x sh sp) (h9 : ∀ b, x ≤ b → b ≤ x + 141 → P' b = P b) : pX Γ P' x sh sp := by
  obtain ⟨h1, h2, h3, h4, h5, h6, ⟨h7, h8⟩, hA, hE, hD⟩ := h
  refine ⟨h1, by rw [h9 x (by omega) (by omega)]; exact h2, h3, ?_, h5.kp (fun b _ hb => h9 b (by omega) (by omega)), h6, ⟨h7.kp (fun b _ _ => h9 b (by omega) (by omega)), h8.kp (fun b _ _ => h9 b (by omega) (by omega))⟩, ?_, ?_, ?_⟩
  · unfold pRs at h4 ⊢; rw [h9 _ (by omega) (by omega)]; exact h4
  · unfold pAs at hA ⊢; rw [h9 _ (by omega) (by omega)]; exact hA
  · unfold pEs at hE ⊢; rw [h9 _ (by omega) (by omega)]; exact hE
  · unfold pDs at hD ⊢; rw [h9 _ (by omega) (by omega)]; exact hD
theorem pI.cg {Γ : zG} {M M' : zM} {x sh sp : Nat} {len c g k size : Nat} {ref arch : Nat → Nat} {fs hs : Nat → mRd} {ur : mRd} (h : pI Γ M x sh sp len c g k size ref arch fs hs ur) (h9 : ∀ b, x ≤ b → b ≤ x + 141 → M'.1 b = M.1 b ∧ M'.2.2 b = M.2.2 b) : pI Γ M' x sh sp len c g k size ref arch fs hs ur := by
  obtain ⟨h1, h2, h3, h4, h5, h6, h7, h8, hA⟩ := h
  have hs := h1.2.2.1
  have e : ∀ b j, x ≤ b → b ≤ x + 141 → zi M' b j = zi M b j := fun b j q1 q2 => by
    show M'.1 b j = M.1 b j
    rw [(h9 b q1 q2).1]
  have hc := h3.2
  have hk := h7.2
  refine ⟨h1.cg (fun b q1 q2 => (h9 b q1 q2).2), h2.kept (h9 _ (by omega) (by omega)).1 (h9 _ (by omega) (by omega)).1, ⟨(e _ _ (by omega) (by omega)).trans h3.1, h3.2⟩, fun i hi => (h4 i hi).kept (fun b q1 q2 => (h9 b (by omega) (by omega)).1), ⟨(e _ _ (by omega) (by omega)).trans h5.1, h5.2⟩, fun hg => (h6 hg).kept (fun b q1 q2 => (h9 b (by omega) (by omega)).1), ⟨(e _ _ (by omega) (by omega)).trans h7.1, h7.2⟩, fun i hi => (h8 i hi).kept (fun b q1 q2 => (h9 b (by omega) (by omega)).1), hA.kept (h9 _ (by omega) (by omega)).1 (h9 _ (by omega) (by omega)).1⟩
/-- a longer reference bears the reads that a shorter one bears -/
theorem mFits_up {ref ref' : Nat → Nat} {len len' : Nat} (hl : len ≤ len') (hr : ∀ j, j < len → ref' j = ref j) : ∀ (es : List (Nat × Nat)) (at_ : Nat), mFits ref len at_ es → mFits ref' len' at_ es
  | [], _, _ => trivial
  | e :: es, at_, h => by
    refine ⟨?_, mFits_up hl hr es _ h.2⟩
    have h1 := h.1
    unfold mFit at h1 ⊢
    rcases h1 with ⟨q1, q2, q3⟩ | ⟨q1, q2, q3, q4⟩ | ⟨q1, q2⟩
    · exact Or.inl ⟨q1, q2, by omega⟩
    · refine Or.inr (Or.inl ⟨q1, q2, by omega, ?_⟩)
      rw [hr at_ q3]
      exact q4
    · exact Or.inr (Or.inr ⟨q1, q2⟩)
theorem mOk_up {ref ref' : Nat → Nat} {len len' : Nat} (hl : len ≤ len') (hr : ∀ j, j < len → ref' j = ref j) {r : mRd} (h : mOk ref len r) : mOk ref' len' r := ⟨Nat.le_trans h.1 hl, mFits_up hl hr _ _ h.2.1, h.2.2⟩
theorem mBase_up {ref ref' : Nat → Nat} {len : Nat} (hr : ∀ j, j < len → ref' j = ref j) : ∀ (es : List (Nat × Nat)) (at_ k : Nat), at_ ≤ len → mFits ref len at_ es → k < mBc es → mBase ref' at_ es k = mBase ref at_ es k
  | [], _, _, _, _, h => absurd h (Nat.not_lt_zero _)
  | e :: es, at_, k, ha, hf, hk => by
    have hl := mFits_len [e] at_ ha ⟨hf.1, trivial⟩
    have hps : mPs [e] = mAdv e := by simp [mPs]
    rw [hps] at hl
    simp only [mBase]
    have h1 := hf.1
    unfold mFit at h1
    by_cases c1 : k < mCnt e
    · rw [if_pos c1, if_pos c1]
      by_cases c2 : e.1 = 0
      · rw [if_pos c2, if_pos c2]
        refine hr _ ?_
        unfold mCnt at c1
        rw [if_pos c2] at c1
        unfold mAdv at hl
        rw [if_pos (Or.inl c2)] at hl
        omega
      · rw [if_neg c2, if_neg c2]
    · rw [if_neg c1, if_neg c1]
      refine mBase_up hr es _ _ hl hf.2 ?_
      simp only [mBc] at hk
      omega
theorem pRb.up {M : zM} {a : Nat} {ref ref' : Nat → Nat} {len len' : Nat} {r : mRd} (h : pRb M a ref len r) (hl : len ≤ len') (hr : ∀ j, j < len → ref' j = ref j) : pRb M a ref' len' r :=
  ⟨h.1, fun k hk => (h.2.1 k hk).trans (congrArg nI (mBase_up hr _ _ _ h.2.2.1 h.2.2.2.1 hk).symm), mOk_up hl hr h.2.2⟩
