/-! The coder, as numbers: how likely, the bound, the row of bytes. -/
def mUp (f : Nat → Nat) (k v : Nat) : Nat → Nat := fun j => if j = k then v else f j
theorem mUp_s (f : Nat → Nat) (k v : Nat) : mUp f k v k = v := by simp [mUp]
theorem mUp_n {f : Nat → Nat} {k v j : Nat} (h : j ≠ k) : mUp f k v j = f j := by simp [mUp, h]
def mLk (l b : Nat) : Nat := if b = 0 then l + (2048 - l) / 16 else l - l / 16
def mPhi (l : Nat) : Nat := if l < 2 then 12 else if l < 3 then 10 else if l < 5 then 9 else if l < 9 then 8 else if l < 11 then 7 else if l < 17 then 6 else if l < 33 then 5 else if l < 65 then 4 else if l < 129 then 3 else if l < 138 then 2 else if l < 257 then 1 else if l < 1792 then 0 else if l < 1911 then 1 else if l < 1920 then 2 else if l < 1984 then 3 else if l < 2016 then 4 else if l < 2032 then 5 else if l < 2038 then 6 else if l < 2040 then 7 else if l < 2044 then 8 else if l < 2046 then 9 else if l < 2047 then 10 else 12
theorem mPhi_ok : ∀ l, l < 2034 → 15 ≤ l → (mPhi (mLk l 0) ≤ 3 + mPhi l ∧ 2048 < l * 2 ^ (3 + mPhi l - mPhi (mLk l 0))) ∧ (mPhi (mLk l 1) ≤ 3 + mPhi l ∧ 2048 < (2048 - l) * 2 ^ (3 + mPhi l - mPhi (mLk l 1))) ∧ (15 ≤ mLk l 0 ∧ mLk l 0 < 2034) ∧ 15 ≤ mLk l 1 ∧ mLk l 1 < 2034 := by decide +kernel
/-- the likelihoods are in bounds; the even one is 1024 -/
def mLi (lk : Nat → Nat) : Prop := (∀ p, p < 58 → 15 ≤ lk p ∧ lk p < 2034) ∧ lk 58 = 1024
def mLn (lk : Nat → Nat) (p b : Nat) : Nat → Nat := if p = 58 then lk else mUp lk p (mLk (lk p) b)
theorem mLi_any {lk : Nat → Nat} (h : mLi lk) {p : Nat} (hp : p ≤ 58) : 15 ≤ lk p ∧ lk p < 2034 := by
  by_cases e : p = 58
  · subst e; rw [h.2]; omega
  · exact h.1 p (by omega)
theorem mLi_next {lk : Nat → Nat} (h : mLi lk) {p b : Nat} (hp : p ≤ 58) (hb : b < 2) : mLi (mLn lk p b) := by
  unfold mLn
  by_cases e : p = 58
  · rw [if_pos e]; exact h
  · rw [if_neg e]
    have h1 := h.1 p (by omega)
    have h2 := mPhi_ok (lk p) h1.2 h1.1
    refine ⟨fun j hj => ?_, by rw [mUp_n (by omega)]; exact h.2⟩
    by_cases ej : j = p
    · subst ej
      rw [mUp_s]
      have : b = 0 ∨ b = 1 := by omega
      rcases this with rfl | rfl
      · exact h2.2.2.1
      · exact h2.2.2.2
    · rw [mUp_n ej]; exact h.1 j hj
/-- the row of bytes as one number -/
def mRv (row : Nat → Nat) : Nat → Nat
  | 0 => 0
  | r + 1 => mRv row r * 256 + row r
theorem mRv_congr {f g : Nat → Nat} : ∀ {r : Nat}, (∀ j, j < r → f j = g j) → mRv f r = mRv g r
  | 0, _ => rfl
  | r + 1, h => by
    simp only [mRv]
    rw [mRv_congr (r := r) (fun j hj => h j (by omega)), h r (by omega)]
/-- one is added to the row -/
def mCar : Nat → (Nat → Nat) → Nat → Nat
  | 0, row => row
  | k + 1, row => if row k = 255 then mCar k (mUp row k 0) else mUp row k (row k + 1)
theorem mCar_hi : ∀ (r : Nat) (row : Nat → Nat) (j : Nat), r ≤ j → mCar r row j = row j
  | 0, _, _, _ => rfl
  | r + 1, row, j, h => by
    simp only [mCar]
    split
    · rw [mCar_hi r _ j (by omega), mUp_n (by omega)]
    · rw [mUp_n (by omega)]
theorem mCar_ok : ∀ (r : Nat) (row : Nat → Nat), (∀ j, j < r → row j < 256) → mRv row r + 1 < 256 ^ r → mRv (mCar r row) r = mRv row r + 1 ∧ ∀ j, j < r → mCar r row j < 256
  | 0, _, _, h => by simp [mRv] at h
  | r + 1, row, hb, h => by
    have hr := hb r (by omega)
    simp only [mRv, Nat.pow_succ] at h ⊢
    by_cases e : row r = 255
    · have hcar : mCar (r + 1) row = mCar r (mUp row r 0) := by simp [mCar, e]
      have hcg : mRv (mUp row r 0) r = mRv row r := mRv_congr (fun j hj => mUp_n (by omega))
      obtain ⟨h1, h2⟩ := mCar_ok r (mUp row r 0) (fun j hj => by rw [mUp_n (by omega)]; exact hb j (by omega)) (by rw [hcg]; omega)
      rw [hcar, h1, hcg, mCar_hi r _ r (Nat.le_refl _), mUp_s]
      refine ⟨by omega, fun j hj => ?_⟩
      by_cases ej : j = r
      · subst ej; rw [mCar_hi _ _ _ (Nat.le_refl _), mUp_s]; omega
      · exact h2 j (by omega)
    · have hcar : mCar (r + 1) row = mUp row r (row r + 1) := by simp [mCar, e]
      have hcg : mRv (mUp row r (row r + 1)) r = mRv row r := mRv_congr (fun j hj => mUp_n (by omega))
      rw [hcar, hcg, mUp_s]
      refine ⟨by omega, fun j hj => ?_⟩
      by_cases ej : j = r
      · subst ej; rw [mUp_s]; omega
      · rw [mUp_n ej]; exact hb j (by omega)
/-- a writer's state: low, range, likelihoods, bytes out, the row -/
abbrev mEn : Type := Nat × Nat × (Nat → Nat) × Nat × (Nat → Nat)
def mB (rg l : Nat) : Nat := rg / 2048 * l
def mLow1 (s : mEn) (p b : Nat) : Nat := if b = 0 then s.1 else s.1 + mB s.2.1 (s.2.2.1 p)
def mRg1 (rg l b : Nat) : Nat := if b = 0 then mB rg l else rg - mB rg l
def mLow2 (s : mEn) (p b : Nat) : Nat := if 4294967296 ≤ mLow1 s p b then mLow1 s p b - 4294967296 else mLow1 s p b
def mRow2 (s : mEn) (p b : Nat) : Nat → Nat := if 4294967296 ≤ mLow1 s p b then mCar s.2.2.2.1 s.2.2.2.2 else s.2.2.2.2
def mPut (s : mEn) (pb : Nat × Nat) : mEn :=
  if mRg1 s.2.1 (s.2.2.1 pb.1) pb.2 < 16777216 then
    (mLow2 s pb.1 pb.2 % 16777216 * 256, mRg1 s.2.1 (s.2.2.1 pb.1) pb.2 * 256, mLn s.2.2.1 pb.1 pb.2, s.2.2.2.1 + 1, mUp (mRow2 s pb.1 pb.2) s.2.2.2.1 (mLow2 s pb.1 pb.2 / 16777216))
  else (mLow2 s pb.1 pb.2, mRg1 s.2.1 (s.2.2.1 pb.1) pb.2, mLn s.2.2.1 pb.1 pb.2, s.2.2.2.1, mRow2 s pb.1 pb.2)
def mEi (s : mEn) : Prop := s.1 < 4294967296 ∧ 16777216 ≤ s.2.1 ∧ s.2.1 < 4294967296 ∧ mLi s.2.2.1 ∧ (∀ j, j < s.2.2.2.1 → s.2.2.2.2 j < 256) ∧
  mRv s.2.2.2.2 s.2.2.2.1 * 4294967296 + s.1 + s.2.1 ≤ 4294967295 * 256 ^ s.2.2.2.1
theorem mB_le {rg l : Nat} (hl : l < 2034) : mB rg l + rg / 2048 * 14 ≤ rg := by
  unfold mB
  have h1 : rg / 2048 * l ≤ rg / 2048 * 2034 := Nat.mul_le_mul_left _ (by omega)
  omega
theorem mB_ge {rg l : Nat} (hl : 15 ≤ l) : rg / 2048 * 15 ≤ mB rg l := Nat.mul_le_mul_left _ hl
theorem mRg1_in {rg l b : Nat} (h1 : 16777216 ≤ rg) (h2 : rg < 4294967296) (hl : 15 ≤ l ∧ l < 2034) : 65536 ≤ mRg1 rg l b ∧ mRg1 rg l b < 4294967296 := by
  have a1 := mB_le (rg := rg) hl.2
  have a2 := mB_ge (rg := rg) hl.1
  unfold mRg1
  split <;> omega
theorem m_ar1 {A B C D F K low rg : Nat} (h6 : F * 4294967296 + low + rg ≤ 4294967295 * K) (hlow : C + D ≤ low + rg) (e1 : A * 4294967296 + B = F * 4294967296 + C) : A * 4294967296 + B + D ≤ 4294967295 * K := by
  rw [e1, Nat.add_assoc]
  rw [Nat.add_assoc] at h6
  exact Nat.le_trans (Nat.add_le_add_left hlow _) h6
theorem m_ar2 {A B C D F K low rg : Nat} (h6 : F * 4294967296 + low + rg ≤ 4294967295 * K) (hlow : C + D ≤ low + rg) (e1 : A * 4294967296 + B = F * 4294967296 + C) : (A * 256 + B / 16777216) * 4294967296 + B % 16777216 * 256 + D * 256 ≤ 4294967295 * (K * 256) := by
  have h := m_ar1 h6 hlow e1
  have hB := Nat.div_add_mod B 16777216
  have e2 : (A * 256 + B / 16777216) * 4294967296 + B % 16777216 * 256 + D * 256 = (A * 4294967296 + B + D) * 256 := by
    generalize B / 16777216 = q at *
    generalize B % 16777216 = m at *
    subst hB
    rw [Nat.add_mul, Nat.add_mul, Nat.add_mul, Nat.add_mul, Nat.mul_assoc A, Nat.mul_assoc A, Nat.mul_comm 16777216 q, Nat.mul_assoc q]
    clear h6 hlow e1 h
    omega
  rw [e2, ← Nat.mul_assoc]
  exact Nat.mul_le_mul_right _ h
set_option maxRecDepth 20000 in
theorem mPut_ok {s : mEn} (h : mEi s) {p b : Nat} (hp : p ≤ 58) (hb : b < 2) : mEi (mPut s (p, b)) ∧ (4294967296 ≤ mLow1 s p b → 1 ≤ s.2.2.2.1 ∧ mRv s.2.2.2.2 s.2.2.2.1 + 1 < 256 ^ s.2.2.2.1) ∧ mLow1 s p b < 8589934592 := by
  obtain ⟨low, rg, lk, r, row⟩ := s
  obtain ⟨h1, h2, h3, h4, h5, h6⟩ := h
  dsimp only at h1 h2 h3 h4 h5 h6
  generalize hK : 256 ^ r = K at h6
  have hl := mLi_any h4 hp
  have a1 := mB_le (rg := rg) hl.2
  have a2 := mRg1_in (b := b) h2 h3 hl
  have hlow : mLow1 (low, rg, lk, r, row) p b + mRg1 rg (lk p) b ≤ low + rg := by
    unfold mLow1 mRg1
    dsimp only
    split <;> omega
  have hlo2 : low ≤ mLow1 (low, rg, lk, r, row) p b := by
    unfold mLow1
    dsimp only
    split <;> omega
  have hcar : 4294967296 ≤ mLow1 (low, rg, lk, r, row) p b → mRv row r + 1 < K := by
    intro h
    omega
  have hrow : mRv (mRow2 (low, rg, lk, r, row) p b) r * 4294967296 + mLow2 (low, rg, lk, r, row) p b = mRv row r * 4294967296 + mLow1 (low, rg, lk, r, row) p b ∧ (∀ j, j < r → mRow2 (low, rg, lk, r, row) p b j < 256) ∧ mLow2 (low, rg, lk, r, row) p b < 4294967296 := by
    unfold mRow2 mLow2
    dsimp only
    by_cases c : 4294967296 ≤ mLow1 (low, rg, lk, r, row) p b
    · simp only [if_pos c]
      obtain ⟨g1, g2⟩ := mCar_ok r row h5 (by rw [hK]; exact hcar c)
      exact ⟨by rw [g1]; omega, g2, by omega⟩
    · simp only [if_neg c]
      exact ⟨by first | rfl | trivial, h5, by omega⟩
  obtain ⟨e1, e2, e3⟩ := hrow
  refine ⟨?_, fun c => ⟨?_, by first | exact hcar c | (dsimp only; rw [hK]; exact hcar c)⟩, by omega⟩
  · unfold mPut
    dsimp only
    by_cases c : mRg1 rg (lk p) b < 16777216
    · rw [if_pos c]
      refine ⟨?_, ?_, ?_, mLi_next h4 hp hb, fun j hj => ?_, ?_⟩ <;> dsimp only
      · omega
      · omega
      · omega
      · by_cases ej : j = r
        · subst ej; rw [mUp_s]; omega
        · rw [mUp_n ej]
          have hj' : j < r + 1 := hj
          exact e2 j (by omega)
      · simp only [mRv, mUp_s, Nat.pow_succ, hK]
        rw [mRv_congr (g := mRow2 (low, rg, lk, r, row) p b) (fun j hj => mUp_n (by omega))]
        exact m_ar2 h6 hlow e1
    · rw [if_neg c]
      exact ⟨e3, by dsimp only; omega, a2.2, mLi_next h4 hp hb, e2, by dsimp only; rw [hK]; exact m_ar1 h6 hlow e1⟩
  · have := hcar c
    rcases Nat.eq_zero_or_pos r with rfl | h
    · rw [← hK] at this
      simp [mRv] at this
    · exact h
/-! how many bytes come -/
def mSum (f : Nat → Nat) : Nat → Nat
  | 0 => 0
  | n + 1 => mSum f n + f n
theorem mSum_congr {f g : Nat → Nat} : ∀ {n : Nat}, (∀ j, j < n → f j = g j) → mSum f n = mSum g n
  | 0, _ => rfl
  | n + 1, h => by
    simp only [mSum]
    rw [mSum_congr (n := n) (fun j hj => h j (by omega)), h n (by omega)]
theorem mSum_up (F : Nat → Nat) (f : Nat → Nat) (p v : Nat) : ∀ {n : Nat}, p < n → mSum (fun j => F (mUp f p v j)) n + F (f p) = mSum (fun j => F (f j)) n + F v
  | 0, h => by omega
  | n + 1, h => by
    simp only [mSum]
    by_cases e : p = n
    · subst e
      rw [mUp_s, mSum_congr (f := fun j => F (mUp f p v j)) (g := fun j => F (f j)) (fun j hj => by rw [mUp_n (by omega)])]
      omega
    · have := mSum_up F f p v (n := n) (by omega)
      rw [mUp_n (fun q => e q.symm)]
      omega
def mCo (pb : Nat × Nat) : Nat := if pb.1 = 58 then 2 else 3
/-- the budget N pays for the bytes that are out -/
def mPay (s : mEn) (N : Nat) : Prop := 2 ^ (31 + 8 * s.2.2.2.1 + mSum (fun p => mPhi (s.2.2.1 p)) 58) ≤ s.2.1 * 2 ^ N
theorem m_cost {rg x c : Nat} (h1 : 16777216 ≤ rg) (hx : 2048 < x * 2 ^ c) : rg ≤ rg / 2048 * x * 2 ^ c := by
  rw [Nat.mul_assoc]
  have h2 : rg / 2048 * 2049 ≤ rg / 2048 * (x * 2 ^ c) := Nat.mul_le_mul_left _ hx
  omega
theorem m_costR {rg l b c : Nat} (h1 : 16777216 ≤ rg) (hb : b < 2) (hl : l < 2034) (hx : 2048 < (if b = 0 then l else 2048 - l) * 2 ^ c) : rg ≤ mRg1 rg l b * 2 ^ c := by
  have h2 := m_cost (rg := rg) h1 hx
  refine Nat.le_trans h2 (Nat.mul_le_mul_right _ ?_)
  unfold mRg1 mB
  split
  · exact Nat.le_refl _
  · rename_i e
    have h3 : rg / 2048 * (2048 - l) + rg / 2048 * l = rg / 2048 * 2048 := by rw [← Nat.mul_add]; congr 1; omega
    omega
theorem mPay_next {s : mEn} {N : Nat} (h : mEi s) (hN : mPay s N) {p b : Nat} (hp : p ≤ 58) (hb : b < 2) : mPay (mPut s (p, b)) (N + mCo (p, b)) := by
  obtain ⟨low, rg, lk, r, row⟩ := s
  obtain ⟨h1, h2, h3, h4, h5, h6⟩ := h
  dsimp only at h1 h2 h3 h4 h5 h6
  have hl := mLi_any h4 hp
  unfold mPay at hN
  dsimp only at hN
  have key : 2 ^ (31 + 8 * r + mSum (fun q => mPhi (mLn lk p b q)) 58) ≤ mRg1 rg (lk p) b * 2 ^ (N + mCo (p, b)) := by
    by_cases e : p = 58
    · have hln : mLn lk p b = lk := by simp [mLn, e]
      have hc : mCo (p, b) = 2 := by simp [mCo, e]
      rw [hln, hc]
      have hx : 2048 < (if b = 0 then lk p else 2048 - lk p) * 2 ^ 2 := by
        rw [e, h4.2]; split <;> omega
      have hr := m_costR (b := b) h2 hb hl.2 hx
      calc 2 ^ (31 + 8 * r + mSum (fun q => mPhi (lk q)) 58) ≤ rg * 2 ^ N := hN
        _ ≤ mRg1 rg (lk p) b * 2 ^ 2 * 2 ^ N := Nat.mul_le_mul_right _ hr
        _ = mRg1 rg (lk p) b * 2 ^ (N + 2) := by rw [Nat.mul_assoc, ← Nat.pow_add, Nat.add_comm 2 N]
    · have hln : mLn lk p b = mUp lk p (mLk (lk p) b) := by simp [mLn, e]
      have hc : mCo (p, b) = 3 := by simp [mCo, e]
      have hok := mPhi_ok (lk p) hl.2 hl.1
      have hq : mPhi (mLk (lk p) b) ≤ 3 + mPhi (lk p) ∧ 2048 < (if b = 0 then lk p else 2048 - lk p) * 2 ^ (3 + mPhi (lk p) - mPhi (mLk (lk p) b)) := by
        have : b = 0 ∨ b = 1 := by omega
        rcases this with rfl | rfl
        · exact hok.1
        · exact hok.2.1
      have hr := m_costR (b := b) h2 hb hl.2 hq.2
      have hs := mSum_up mPhi lk p (mLk (lk p) b) (n := 58) (by omega)
      rw [hln, hc]
      refine Nat.le_of_mul_le_mul_right (c := 2 ^ mPhi (lk p)) ?_ (Nat.two_pow_pos _)
      calc 2 ^ (31 + 8 * r + mSum (fun q => mPhi (mUp lk p (mLk (lk p) b) q)) 58) * 2 ^ mPhi (lk p) = 2 ^ (31 + 8 * r + mSum (fun q => mPhi (lk q)) 58) * 2 ^ mPhi (mLk (lk p) b) := by
              rw [← Nat.pow_add, ← Nat.pow_add]; congr 1; omega
        _ ≤ rg * 2 ^ N * 2 ^ mPhi (mLk (lk p) b) := Nat.mul_le_mul_right _ hN
        _ ≤ mRg1 rg (lk p) b * 2 ^ (3 + mPhi (lk p) - mPhi (mLk (lk p) b)) * 2 ^ N * 2 ^ mPhi (mLk (lk p) b) := Nat.mul_le_mul_right _ (Nat.mul_le_mul_right _ hr)
        _ = mRg1 rg (lk p) b * 2 ^ (N + 3) * 2 ^ mPhi (lk p) := by
              rw [Nat.mul_assoc, Nat.mul_assoc, Nat.mul_assoc, ← Nat.pow_add, ← Nat.pow_add, ← Nat.pow_add]; congr 2; omega
  unfold mPay mPut
  dsimp only
  by_cases c : mRg1 rg (lk p) b < 16777216
  · rw [if_pos c]
    dsimp only
    have : 31 + 8 * (r + 1) + mSum (fun q => mPhi (mLn lk p b q)) 58 = (31 + 8 * r + mSum (fun q => mPhi (mLn lk p b q)) 58) + 8 := by omega
    rw [this, Nat.pow_add]
    calc 2 ^ (31 + 8 * r + mSum (fun q => mPhi (mLn lk p b q)) 58) * 2 ^ 8 ≤ mRg1 rg (lk p) b * 2 ^ (N + mCo (p, b)) * 2 ^ 8 := Nat.mul_le_mul_right _ key
      _ = mRg1 rg (lk p) b * 256 * 2 ^ (N + mCo (p, b)) := by rw [Nat.mul_assoc, Nat.mul_comm (2 ^ (N + mCo (p, b))), ← Nat.mul_assoc]
  · rw [if_neg c]
    exact key
theorem mPay_bytes {s : mEn} {N : Nat} (h : mEi s) (hN : mPay s N) : 8 * s.2.2.2.1 ≤ N := by
  obtain ⟨low, rg, lk, r, row⟩ := s
  obtain ⟨h1, h2, h3, h4, h5, h6⟩ := h
  unfold mPay at hN
  dsimp only at *
  have h7 : 2 ^ (31 + 8 * r) ≤ 2 ^ (31 + 8 * r + mSum (fun p => mPhi (lk p)) 58) := Nat.pow_le_pow_right (by omega) (by omega)
  have h8 : rg * 2 ^ N < 2 ^ 32 * 2 ^ N := Nat.mul_lt_mul_of_pos_right (by omega) (Nat.two_pow_pos _)
  rw [← Nat.pow_add] at h8
  have h9 : 2 ^ (31 + 8 * r) < 2 ^ (32 + N) := by omega
  have := (Nat.pow_lt_pow_iff_right (a := 2) (by omega)).mp h9
  omega
/-- many decisions -/
def mPuts (s : mEn) (l : List (Nat × Nat)) : mEn := l.foldl mPut s
def mCos : List (Nat × Nat) → Nat
  | [] => 0
  | x :: l => mCo x + mCos l
theorem mPuts_ok : ∀ {l : List (Nat × Nat)} {s : mEn} {N : Nat}, mEi s → mPay s N → (∀ x ∈ l, x.1 ≤ 58 ∧ x.2 < 2) → mEi (mPuts s l) ∧ mPay (mPuts s l) (N + mCos l)
  | [], s, N, h, hN, _ => ⟨h, hN⟩
  | (p, b) :: l, s, N, h, hN, hl => by
    obtain ⟨h1, h2⟩ := hl (p, b) List.mem_cons_self
    have := mPuts_ok (l := l) (mPut_ok h h1 h2).1 (mPay_next h hN h1 h2) (fun x hx => hl x (List.mem_cons_of_mem _ hx))
    simp only [mCos]
    rw [← Nat.add_assoc]
    exact this
/-- the first state -/
def mE0 (row : Nat → Nat) : mEn := (0, 4294967295, fun _ => 1024, 0, row)
theorem mE0_ok (row : Nat → Nat) : mEi (mE0 row) ∧ mPay (mE0 row) 0 := by
  refine ⟨⟨by simp [mE0], by simp [mE0], by simp [mE0], ⟨fun p _ => by simp [mE0], rfl⟩, fun j hj => by simp [mE0] at hj, by simp [mE0, mRv]⟩, ?_⟩
  show 2 ^ (31 + 8 * 0 + mSum (fun _ => mPhi 1024) 58) ≤ 4294967295 * 2 ^ 0
  decide +kernel
