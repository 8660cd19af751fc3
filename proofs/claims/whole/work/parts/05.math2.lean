/-! Reads, their decisions, a block's bytes. A read: its position, its edits (kind, number). -/
abbrev mRd : Type := Nat × List (Nat × Nat)
def mCnt (e : Nat × Nat) : Nat := if e.1 = 0 then e.2 else if e.1 = 3 then 0 else 1
def mAdv (e : Nat × Nat) : Nat := if e.1 = 0 ∨ e.1 = 3 then e.2 else if e.1 = 1 then 1 else 0
def mBc : List (Nat × Nat) → Nat
  | [] => 0
  | e :: l => mCnt e + mBc l
def mPs : List (Nat × Nat) → Nat
  | [] => 0
  | e :: l => mAdv e + mPs l
theorem mBc_app : ∀ (a b : List (Nat × Nat)), mBc (a ++ b) = mBc a + mBc b
  | [], b => by simp [mBc]
  | e :: a, b => by simp only [List.cons_append, mBc, mBc_app a b]; omega
theorem mPs_app : ∀ (a b : List (Nat × Nat)), mPs (a ++ b) = mPs a + mPs b
  | [], b => by simp [mPs]
  | e :: a, b => by simp only [List.cons_append, mPs, mPs_app a b]; omega
/-- the k-th base of a read -/
def mBase (ref : Nat → Nat) : Nat → List (Nat × Nat) → Nat → Nat
  | _, [], _ => 0
  | at_, e :: l, k => if k < mCnt e then (if e.1 = 0 then ref (at_ + k) else e.2) else mBase ref (at_ + mAdv e) l (k - mCnt e)
/-- an edit that fits at a place of the reference -/
def mFit (ref : Nat → Nat) (len at_ : Nat) (e : Nat × Nat) : Prop :=
  (e.1 = 0 ∨ e.1 = 3) ∧ 1 ≤ e.2 ∧ at_ + e.2 ≤ len ∨ e.1 = 1 ∧ e.2 < 4 ∧ at_ < len ∧ ref at_ ≠ e.2 ∨ e.1 = 2 ∧ e.2 < 4
def mFits (ref : Nat → Nat) (len : Nat) : Nat → List (Nat × Nat) → Prop
  | _, [] => True
  | at_, e :: l => mFit ref len at_ e ∧ mFits ref len (at_ + mAdv e) l
/-- a read over a reference of len bases -/
def mOk (ref : Nat → Nat) (len : Nat) (r : mRd) : Prop := r.1 ≤ len ∧ mFits ref len r.1 r.2 ∧ mBc r.2 ≤ 20 ∧ r.2.length ≤ 12
theorem mFits_app {ref : Nat → Nat} {len : Nat} : ∀ (a b : List (Nat × Nat)) (at_ : Nat), mFits ref len at_ (a ++ b) ↔ mFits ref len at_ a ∧ mFits ref len (at_ + mPs a) b
  | [], b, at_ => by simp [mFits, mPs]
  | e :: a, b, at_ => by
    simp only [List.cons_append, mFits, mPs, mFits_app a b]
    rw [Nat.add_assoc]
    exact and_assoc.symm
theorem mFits_len {ref : Nat → Nat} {len : Nat} : ∀ (a : List (Nat × Nat)) (at_ : Nat), at_ ≤ len → mFits ref len at_ a → at_ + mPs a ≤ len
  | [], at_, h, _ => by simpa [mPs] using h
  | e :: a, at_, h, hf => by
    simp only [mFits] at hf
    simp only [mPs]
    have h1 : at_ + mAdv e ≤ len := by
      obtain ⟨k, n⟩ := e
      have hf1 := hf.1
      unfold mFit at hf1
      dsimp only at hf1
      unfold mAdv
      dsimp only
      rcases hf1 with ⟨h0, h1, h2⟩ | ⟨h0, h1, h2, h3⟩ | ⟨h0, h1⟩
      · rw [if_pos h0]; exact h2
      · rw [if_neg (by omega), if_pos h0]; omega
      · rw [if_neg (by omega), if_neg (by omega)]; omega
    have := mFits_len a (at_ + mAdv e) h1 hf.2
    omega
/-- a number's decisions -/
def mN1 (g v : Nat) : Nat → Nat → List (Nat × Nat)
  | 0, _ => []
  | n + 1, i => if 2 ^ (i + 1) ≤ v + 1 then (9 * g + i, 1) :: mN1 g v n (i + 1) else [(9 * g + i, 0)]
def mKk (v : Nat) : Nat → Nat → Nat
  | 0, i => i
  | n + 1, i => if 2 ^ (i + 1) ≤ v + 1 then mKk v n (i + 1) else i
def mN2 (v : Nat) : Nat → List (Nat × Nat)
  | 0 => []
  | k + 1 => (58, (v + 1) / 2 ^ k % 2) :: mN2 v k
def mNum (g v : Nat) : List (Nat × Nat) := mN1 g v 9 0 ++ mN2 v (mKk v 9 0)
def mKind (b k : Nat) : List (Nat × Nat) :=
  if k = 0 then [(27 + 4 * b, 0)] else if k = 4 then [(27 + 4 * b, 1), (27 + 4 * b + 1, 0)] else if k = 1 then [(27 + 4 * b, 1), (27 + 4 * b + 1, 1), (27 + 4 * b + 2, 0)]
  else [(27 + 4 * b, 1), (27 + 4 * b + 1, 1), (27 + 4 * b + 2, 1), (27 + 4 * b + 3, if k = 2 then 0 else 1)]
def mChg (a n : Nat) : Nat := if n < a then n else n - 1
def mEdN (ref : Nat → Nat) (at_ : Nat) (e : Nat × Nat) : List (Nat × Nat) :=
  if e.1 = 0 then mNum 1 (e.2 - 1) else if e.1 = 3 then mNum 2 (e.2 - 1) else if e.1 = 1 then
    (if mChg (ref at_) e.2 = 0 then [(47 + 2 * ref at_, 0)] else [(47 + 2 * ref at_, 1), (47 + 2 * ref at_ + 1, if mChg (ref at_) e.2 = 1 then 0 else 1)])
  else [(55, e.2 / 2), (56 + e.2 / 2, e.2 % 2)]
def mEds (ref : Nat → Nat) : Nat → Nat → List (Nat × Nat) → List (Nat × Nat)
  | _, b, [] => mKind b 4
  | at_, b, e :: l => mKind b e.1 ++ mEdN ref at_ e ++ mEds ref (at_ + mAdv e) e.1 l
def mRead (ref : Nat → Nat) (b : Nat) (r : mRd) : List (Nat × Nat) := mNum 0 (r.1 - b) ++ mEds ref r.1 4 r.2
def mBits (ref : Nat → Nat) : Nat → List mRd → List (Nat × Nat)
  | _, [] => []
  | b, r :: l => mRead ref b r ++ mBits ref r.1 l
theorem mCos_app : ∀ (a b : List (Nat × Nat)), mCos (a ++ b) = mCos a + mCos b
  | [], b => by simp [mCos]
  | e :: a, b => by simp only [List.cons_append, mCos, mCos_app a b]; omega
theorem mPuts_app (s : mEn) (a b : List (Nat × Nat)) : mPuts s (a ++ b) = mPuts (mPuts s a) b := by simp [mPuts, List.foldl_append]
/-- all decisions are bits, by likelihoods that there are -/
def mGood (l : List (Nat × Nat)) : Prop := ∀ x ∈ l, x.1 ≤ 58 ∧ x.2 < 2
theorem mGood_app {a b : List (Nat × Nat)} (ha : mGood a) (hb : mGood b) : mGood (a ++ b) := fun x hx => (List.mem_append.mp hx).elim (ha x) (hb x)
theorem mGood_cons {x : Nat × Nat} {l : List (Nat × Nat)} (h1 : x.1 ≤ 58) (h2 : x.2 < 2) (h : mGood l) : mGood (x :: l) := fun y hy => (List.mem_cons.mp hy).elim (fun e => by rw [e]; exact ⟨h1, h2⟩) (h y)
theorem mGood_nil : mGood [] := fun x hx => nomatch hx
theorem mNum_ok : ∀ g, g < 3 → ∀ v, v < 161 → (mNum g v).all (fun x => decide (x.1 ≤ 58 ∧ x.2 < 2)) = true ∧ mCos (mNum g v) ≤ 38 := by decide +kernel
theorem mKind_ok : ∀ b, b < 5 → ∀ k, k < 5 → (mKind b k).all (fun x => decide (x.1 ≤ 58 ∧ x.2 < 2)) = true ∧ mCos (mKind b k) ≤ (if k = 4 then 6 else 12) := by decide +kernel
theorem mGood_of {l : List (Nat × Nat)} (h : l.all (fun x => decide (x.1 ≤ 58 ∧ x.2 < 2)) = true) : mGood l := fun x hx => of_decide_eq_true (List.all_eq_true.mp h x hx)
theorem mEdN_ok {ref : Nat → Nat} {len at_ : Nat} {e : Nat × Nat} (hr : ∀ j, ref j < 4) (hl : len ≤ 160) (h : mFit ref len at_ e) : mGood (mEdN ref at_ e) ∧ mCos (mEdN ref at_ e) ≤ 38 := by
  obtain ⟨k, n⟩ := e
  unfold mFit at h
  dsimp only at h
  unfold mEdN
  dsimp only
  rcases h with ⟨h0, h1, h2⟩ | ⟨rfl, h1, h2, h3⟩ | ⟨rfl, h1⟩
  · rcases h0 with rfl | rfl
    · have := mNum_ok 1 (by omega) (n - 1) (by omega)
      exact ⟨mGood_of this.1, this.2⟩
    · have := mNum_ok 2 (by omega) (n - 1) (by omega)
      exact ⟨mGood_of this.1, this.2⟩
  · have hra := hr at_
    simp only [Nat.reduceEqDiff, if_false, if_true, Nat.one_ne_zero]
    split
    · exact ⟨mGood_cons (by dsimp only; omega) (by dsimp only; omega) mGood_nil, by simp [mCos, mCo]; split <;> omega⟩
    · refine ⟨mGood_cons (by dsimp only; omega) (by dsimp only; omega) (mGood_cons (by dsimp only; omega) (by dsimp only; split <;> omega) mGood_nil), ?_⟩
      simp only [mCos, mCo]
      split <;> split <;> omega
  · simp only [Nat.reduceEqDiff, if_false]
    refine ⟨mGood_cons (by dsimp only; omega) (by dsimp only; omega) (mGood_cons (by dsimp only; omega) (by dsimp only; omega) mGood_nil), ?_⟩
    simp only [mCos, mCo]
    split <;> split <;> omega
theorem mFit_kind {ref : Nat → Nat} {len at_ : Nat} {e : Nat × Nat} (h : mFit ref len at_ e) : e.1 < 4 := by
  unfold mFit at h; omega
theorem mEds_ok {ref : Nat → Nat} {len : Nat} (hr : ∀ j, ref j < 4) (hl : len ≤ 160) : ∀ (es : List (Nat × Nat)) (at_ b : Nat), b < 5 → mFits ref len at_ es → mGood (mEds ref at_ b es) ∧ mCos (mEds ref at_ b es) ≤ 50 * es.length + 6
  | [], at_, b, hb, _ => by
    have := mKind_ok b hb 4 (by omega)
    exact ⟨mGood_of this.1, by simpa [mEds] using this.2⟩
  | e :: l, at_, b, hb, h => by
    simp only [mFits] at h
    have hk := mFit_kind h.1
    have h1 := mKind_ok b hb e.1 (by omega)
    have h2 := mEdN_ok hr hl h.1
    have h3 := mEds_ok hr hl l (at_ + mAdv e) e.1 (by omega) h.2
    have h4 : mCos (mKind b e.1) ≤ 12 := by
      have := h1.2
      split at this <;> omega
    simp only [mEds, List.length_cons]
    refine ⟨mGood_app (mGood_app (mGood_of h1.1) h2.1) h3.1, ?_⟩
    rw [mCos_app, mCos_app]
    omega
theorem mRead_ok {ref : Nat → Nat} {len b : Nat} {r : mRd} (hr : ∀ j, ref j < 4) (hl : len ≤ 160) (h : mOk ref len r) : mGood (mRead ref b r) ∧ mCos (mRead ref b r) ≤ 644 := by
  obtain ⟨h1, h2, h3, h4⟩ := h
  have a1 := mNum_ok 0 (by omega) (r.1 - b) (by omega)
  have a2 := mEds_ok hr hl r.2 r.1 4 (by omega) h2
  unfold mRead
  refine ⟨mGood_app (mGood_of a1.1) a2.1, ?_⟩
  rw [mCos_app]
  omega
theorem mBits_ok {ref : Nat → Nat} {len : Nat} (hr : ∀ j, ref j < 4) (hl : len ≤ 160) : ∀ (rs : List mRd) (b : Nat), (∀ r ∈ rs, mOk ref len r) → mGood (mBits ref b rs) ∧ mCos (mBits ref b rs) ≤ 644 * rs.length
  | [], b, _ => ⟨mGood_nil, by simp [mBits, mCos]⟩
  | r :: l, b, h => by
    have h1 := mRead_ok (b := b) hr hl (h r List.mem_cons_self)
    have h2 := mBits_ok hr hl l r.1 (fun x hx => h x (List.mem_cons_of_mem _ hx))
    simp only [mBits, List.length_cons]
    refine ⟨mGood_app h1.1 h2.1, ?_⟩
    rw [mCos_app]
    omega
