/-! A row's end, a block, and its reading. -/
def mSeal (s : mEn) : Nat → Nat := mUp (mUp (mUp (mUp s.2.2.2.2 s.2.2.2.1 (s.1 / 16777216)) (s.2.2.2.1 + 1) (s.1 / 65536 % 256)) (s.2.2.2.1 + 2) (s.1 / 256 % 256)) (s.2.2.2.1 + 3) (s.1 % 256)
def mStrip (row : Nat → Nat) : Nat → Nat
  | 0 => 0
  | n + 1 => if row n = 0 then mStrip row n else n + 1
theorem mStrip_le (row : Nat → Nat) : ∀ n, mStrip row n ≤ n
  | 0 => Nat.le_refl _
  | n + 1 => by
    simp only [mStrip]
    split
    · have := mStrip_le row n; omega
    · omega
theorem mStrip_congr {f g : Nat → Nat} : ∀ {n : Nat}, (∀ j, j < n → f j = g j) → mStrip f n = mStrip g n
  | 0, _ => rfl
  | n + 1, h => by
    simp only [mStrip]
    rw [h n (by omega), mStrip_congr (n := n) (fun j hj => h j (by omega))]
def mFp : List mRd → Nat
  | [] => 0
  | r :: _ => r.1
/-- the writer's state behind the reads of a block -/
def mSt (ref : Nat → Nat) (rs : List mRd) : mEn := mPuts (mE0 (fun _ => 0)) (mBits ref (mFp rs) rs)
def mRow (ref : Nat → Nat) (rs : List mRd) : Nat → Nat := mSeal (mSt ref rs)
def mRl (ref : Nat → Nat) (rs : List mRd) : Nat := mStrip (mRow ref rs) ((mSt ref rs).2.2.2.1 + 4)
/-- a block without its check -/
def mBlk0 (ref : Nat → Nat) (rs : List mRd) : Nat → Nat := fun j => if j = 0 then rs.length else if j = 1 then (mFp rs) else if j = 2 then mRl ref rs else mRow ref rs (j - 3)
def mChk (f : Nat → Nat) : Nat → Nat
  | 0 => 7
  | n + 1 => (31 * mChk f n + f n) % 65521
theorem mChk_lt (f : Nat → Nat) : ∀ n, mChk f n < 65521
  | 0 => by simp [mChk]
  | n + 1 => by simp only [mChk]; omega
theorem mChk_congr {f g : Nat → Nat} : ∀ {n : Nat}, (∀ j, j < n → f j = g j) → mChk f n = mChk g n
  | 0, _ => rfl
  | n + 1, h => by
    simp only [mChk]
    rw [h n (by omega), mChk_congr (n := n) (fun j hj => h j (by omega))]
def mBl (ref : Nat → Nat) (rs : List mRd) : Nat := mRl ref rs + 5
def mBlk (ref : Nat → Nat) (rs : List mRd) : Nat → Nat := fun j =>
  if j = mRl ref rs + 3 then mChk (mBlk0 ref rs) (mRl ref rs + 3) / 256 else if j = mRl ref rs + 4 then mChk (mBlk0 ref rs) (mRl ref rs + 3) % 256 else mBlk0 ref rs j
theorem mSt_ok {ref : Nat → Nat} {len : Nat} (hr : ∀ j, ref j < 4) (hl : len ≤ 160) {rs : List mRd} (h : ∀ r ∈ rs, mOk ref len r) : mEi (mSt ref rs) ∧ 8 * (mSt ref rs).2.2.2.1 ≤ 644 * rs.length := by
  have h0 := mE0_ok (fun _ => 0)
  have h1 := mBits_ok hr hl rs (mFp rs) h
  have h2 := mPuts_ok h0.1 h0.2 h1.1
  refine ⟨h2.1, ?_⟩
  have h3 := mPay_bytes h2.1 h2.2
  rw [Nat.zero_add] at h3
  exact Nat.le_trans h3 h1.2
/-! reading -/
/-- a reader's state: value, range, likelihoods, the next byte -/
abbrev mDe : Type := Nat × Nat × (Nat → Nat) × Nat
def mBit (s : mDe) (p : Nat) : Nat := if s.1 < mB s.2.1 (s.2.2.1 p) then 0 else 1
def mV1 (s : mDe) (p : Nat) : Nat := if s.1 < mB s.2.1 (s.2.2.1 p) then s.1 else s.1 - mB s.2.1 (s.2.2.1 p)
def mGet (by_ : Nat → Nat) (s : mDe) (p : Nat) : mDe :=
  if mRg1 s.2.1 (s.2.2.1 p) (mBit s p) < 16777216 then (mV1 s p * 256 + by_ s.2.2.2, mRg1 s.2.1 (s.2.2.1 p) (mBit s p) * 256, mLn s.2.2.1 p (mBit s p), s.2.2.2 + 1)
  else (mV1 s p, mRg1 s.2.1 (s.2.2.1 p) (mBit s p), mLn s.2.2.1 p (mBit s p), s.2.2.2)
theorem mBit_lt (s : mDe) (p : Nat) : mBit s p < 2 := by unfold mBit; split <;> omega
/-- the reader's bounds, the value below the range -/
def mDi (s : mDe) : Prop := s.1 < s.2.1 ∧ 16777216 ≤ s.2.1 ∧ s.2.1 < 4294967296 ∧ mLi s.2.2.1
theorem mGet_ok {by_ : Nat → Nat} {s : mDe} {p : Nat} (hb : ∀ j, by_ j < 256) (h : mDi s) (hp : p ≤ 58) : mDi (mGet by_ s p) := by
  obtain ⟨v, rg, lk, nx⟩ := s
  obtain ⟨h1, h2, h3, h4⟩ := h
  dsimp only at h1 h2 h3 h4
  have hl := mLi_any h4 hp
  have hn := mLi_next (b := mBit (v, rg, lk, nx) p) h4 hp (mBit_lt _ _)
  have a2 := mRg1_in (b := mBit (v, rg, lk, nx) p) h2 h3 hl
  have a1 := mB_le (rg := rg) hl.2
  have hv : mV1 (v, rg, lk, nx) p < mRg1 rg (lk p) (mBit (v, rg, lk, nx) p) := by
    unfold mV1 mRg1 mBit
    dsimp only
    by_cases c : v < mB rg (lk p)
    · simp only [if_pos c, if_true]; exact c
    · simp only [if_neg c, Nat.one_ne_zero, if_false]; omega
  have hbn := hb nx
  unfold mGet
  dsimp only
  split
  · exact ⟨by dsimp only; omega, by dsimp only; omega, by dsimp only; omega, hn⟩
  · exact ⟨hv, by dsimp only; omega, a2.2, hn⟩
def mGk (by_ : Nat → Nat) (g : Nat) : Nat → Nat → mDe → Nat × mDe
  | 0, k, s => (k, s)
  | n + 1, k, s => if mBit s (9 * g + k) = 1 then mGk by_ g n (k + 1) (mGet by_ s (9 * g + k)) else (k, mGet by_ s (9 * g + k))
def mGv (by_ : Nat → Nat) : Nat → Nat → mDe → Nat × mDe
  | 0, v, s => (v, s)
  | n + 1, v, s => mGv by_ n (2 * v + mBit s 58) (mGet by_ s 58)
def mGn (by_ : Nat → Nat) (g : Nat) (s : mDe) : Nat × mDe :=
  ((mGv by_ (mGk by_ g 9 0 s).1 1 (mGk by_ g 9 0 s).2).1 - 1, (mGv by_ (mGk by_ g 9 0 s).1 1 (mGk by_ g 9 0 s).2).2)
def mGkd (by_ : Nat → Nat) (b : Nat) (s : mDe) : Nat × mDe :=
  if mBit s (27 + 4 * b) = 0 then (0, mGet by_ s (27 + 4 * b)) else
  if mBit (mGet by_ s (27 + 4 * b)) (27 + 4 * b + 1) = 0 then (4, mGet by_ (mGet by_ s (27 + 4 * b)) (27 + 4 * b + 1)) else
  if mBit (mGet by_ (mGet by_ s (27 + 4 * b)) (27 + 4 * b + 1)) (27 + 4 * b + 2) = 0 then (1, mGet by_ (mGet by_ (mGet by_ s (27 + 4 * b)) (27 + 4 * b + 1)) (27 + 4 * b + 2)) else
  (if mBit (mGet by_ (mGet by_ (mGet by_ s (27 + 4 * b)) (27 + 4 * b + 1)) (27 + 4 * b + 2)) (27 + 4 * b + 3) = 0 then 2 else 3,
    mGet by_ (mGet by_ (mGet by_ (mGet by_ s (27 + 4 * b)) (27 + 4 * b + 1)) (27 + 4 * b + 2)) (27 + 4 * b + 3))
