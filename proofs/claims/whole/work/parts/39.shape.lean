/-! the order of reads: by position, those at the same one in the order of their numbers -/
def mSlot (pf : Nat → Nat) (v : Nat) : Nat → Nat
  | 0 => 0
  | k + 1 => if v < pf k then mSlot pf v k else k + 1
def mIn (g : Nat → Nat) (i p r : Nat) : Nat → Nat := fun j => if j < p then g j else if j = p then r else if j ≤ i then g (j - 1) else g j
def mSx (pos : Nat → Nat) : Nat → Nat → Nat
  | 0 => fun _ => 0
  | i + 1 => mIn (mSx pos i) i (mSlot (fun k => pos (mSx pos i k)) (pos i) i) i
theorem mSlot_le (pf : Nat → Nat) (v : Nat) : ∀ k, mSlot pf v k ≤ k
  | 0 => Nat.le_refl _
  | k + 1 => by
    simp only [mSlot]; split
    · have := mSlot_le pf v k; omega
    · omega
theorem mSlot_hi (pf : Nat → Nat) (v : Nat) : ∀ k j, mSlot pf v k ≤ j → j < k → v < pf j
  | 0, j, _, h => absurd h (Nat.not_lt_zero _)
  | k + 1, j, h1, h2 => by
    simp only [mSlot] at h1
    split at h1
    · rename_i c
      by_cases e : j = k
      · rw [e]; exact c
      · exact mSlot_hi pf v k j h1 (by omega)
    · omega
theorem mSlot_lo (pf : Nat → Nat) (v : Nat) : ∀ k j, mSlot pf v k = j + 1 → pf j ≤ v
  | 0, j, h => by simp [mSlot] at h
  | k + 1, j, h => by
    simp only [mSlot] at h
    split at h
    · exact mSlot_lo pf v k j h
    · rename_i c
      obtain rfl : j = k := by omega
      omega
theorem mSx_lt (pos : Nat → Nat) : ∀ i j, j < i → mSx pos i j < i
  | 0, j, h => absurd h (Nat.not_lt_zero _)
  | i + 1, j, h => by
    have hs := mSlot_le (fun k => pos (mSx pos i k)) (pos i) i
    simp only [mSx, mIn]
    split
    · have := mSx_lt pos i j (by omega); omega
    · split
      · omega
      · split
        · have := mSx_lt pos i (j - 1) (by omega); omega
        · omega
theorem mSx_up (pos : Nat → Nat) : ∀ i j, j + 1 < i → pos (mSx pos i j) ≤ pos (mSx pos i (j + 1))
  | 0, j, h => absurd h (Nat.not_lt_zero _)
  | i + 1, j, h => by
    have hs := mSlot_le (fun k => pos (mSx pos i k)) (pos i) i
    have hh := mSlot_hi (fun k => pos (mSx pos i k)) (pos i) i
    have hl := mSlot_lo (fun k => pos (mSx pos i k)) (pos i) i
    simp only [mSx, mIn]
    generalize mSlot (fun k => pos (mSx pos i k)) (pos i) i = p at hs hh hl
    by_cases c1 : j + 1 < p
    · rw [if_pos (by omega), if_pos c1]; exact mSx_up pos i j (by omega)
    · by_cases c2 : j + 1 = p
      · rw [if_pos (by omega), if_neg c1, if_pos c2]; exact hl j c2.symm
      · by_cases c3 : j = p
        · rw [if_neg (by omega), if_pos c3, if_neg c1, if_neg c2, if_pos (by omega), Nat.add_sub_cancel]
          have := hh j (by omega) (by omega)
          omega
        · rw [if_neg (by omega), if_neg c3, if_pos (by omega), if_neg c1, if_neg c2, if_pos (by omega), Nat.add_sub_cancel]
          have := mSx_up pos i (j - 1) (by omega)
          rw [Nat.sub_add_cancel (by omega)] at this
          exact this
/-! the shape of all -/
def pRrS (Γ : zG) (P : Nat → Nat → Nat) (R N : Nat) : Prop := Γ R = some (0, 4) ∧ Γ (R + 1) = some (3, N) ∧ P R 0 = R + 1 ∧ ∀ i, i < N → P (R + 1) i = R + 2 + 4 * i ∧ pSh Γ P (R + 2 + 4 * i)
def pX (Γ : zG) (P : Nat → Nat → Nat) (x sh sp : Nat) : Prop := (Γ x = some (0, 6) ∧ 0 < x) ∧ (P x 0 = x + 1 ∧ P x 1 = x + 3 ∧ P x 3 = x + 105 ∧ P x 4 = sh ∧ P x 5 = sp ∧ P x 6 = x + 134 ∧ P x 7 = x + 136 ∧ P x 8 = x + 139) ∧
  (sh = x + 106 ∧ sp = x + 120 ∨ sh = x + 120 ∧ sp = x + 106) ∧ pRs Γ P (x + 1) ∧ pRrS Γ P (x + 3) 25 ∧ Γ (x + 105) = some (3, 24) ∧ (pRrS Γ P sh 3 ∧ pRrS Γ P sp 3) ∧ pAs Γ P (x + 134) ∧ pEs Γ P (x + 136) ∧ pDs Γ P (x + 139)
theorem pSh.kp {Γ : zG} {P P' : Nat → Nat → Nat} {a : Nat} (h : pSh Γ P a) (h9 : P' a = P a) : pSh Γ P' a := by
  unfold pSh at h ⊢; rw [h9]; exact h
theorem pRrS.kp {Γ : zG} {P P' : Nat → Nat → Nat} {R N : Nat} (h : pRrS Γ P R N) (h9 : ∀ b, R ≤ b → b < R + 2 + 4 * N → P' b = P b) : pRrS Γ P' R N := by
  obtain ⟨h1, h2, h3, h4⟩ := h
  by_cases c : N = 0
  · subst c
    exact ⟨h1, h2, by rw [h9 R (by omega) (by omega)]; exact h3, fun i hi => absurd hi (Nat.not_lt_zero _)⟩
  refine ⟨h1, h2, by rw [h9 R (by omega) (by omega)]; exact h3, fun i hi => ⟨by rw [h9 (R + 1) (by omega) (by omega)]; exact (h4 i hi).1, (h4 i hi).2.kp (h9 _ (by omega) (by omega))⟩⟩
/-- another order in the row of sorted reads changes nothing of the shape -/
theorem pX.kp {Γ : zG} {P P' : Nat → Nat → Nat} {x sh sp : Nat} (h : pX Γ P x sh sp) (h9 : ∀ b, b ≠ x + 105 → P' b = P b) : pX Γ P' x sh sp := by
  obtain ⟨h1, h2, h3, h4, h5, h6, ⟨h7, h8⟩, hA, hE, hD⟩ := h
  refine ⟨h1, by rw [h9 x (by omega)]; exact h2, h3, ?_, h5.kp (fun b _ hb => h9 b (by omega)), h6, ⟨h7.kp (fun b _ _ => h9 b (by omega)), h8.kp (fun b _ _ => h9 b (by omega))⟩, ?_, ?_, ?_⟩
  · unfold pRs at h4 ⊢; rw [h9 _ (by omega)]; exact h4
  · unfold pAs at hA ⊢; rw [h9 _ (by omega)]; exact hA
  · unfold pEs at hE ⊢; rw [h9 _ (by omega)]; exact hE
  · unfold pDs at hD ⊢; rw [h9 _ (by omega)]; exact hD
/-- references have changed at a alone -/
def zOr (a : Nat) (M M' : zM) : Prop := M'.1 = M.1 ∧ M'.2.1 = M.2.1 ∧ ∀ b, b ≠ a → M'.2.2 b = M.2.2 b
theorem zOr.rf {a : Nat} {M : zM} : zOr a M M := ⟨rfl, rfl, fun _ _ => rfl⟩
theorem zOr.sr {a : Nat} {M M' : zM} (h : zOr a M M') {k v : Nat} : zOr a M (zsr M' a k v) := ⟨h.1, h.2.1, fun b hb => (va_up_ne _ _ hb).trans (h.2.2 b hb)⟩
theorem zOr.i {a : Nat} {M M' : zM} (h : zOr a M M') (b j : Nat) : zi M' b j = zi M b j := by
  show M'.1 b j = M.1 b j
  rw [h.1]
theorem zOr.r {a : Nat} {M M' : zM} (h : zOr a M M') {b : Nat} (hb : b ≠ a) (j : Nat) : zr M' b j = zr M b j := by
  show M'.2.2 b j = M.2.2 b j
  rw [h.2.2 b hb]
theorem zr_s (M : zM) (a k v : Nat) : zr (zsr M a k v) a k = v := by rw [zr_si, if_pos ⟨rfl, rfl⟩]
theorem zr_k {M : zM} {a k j v : Nat} (h : j ≠ k) : zr (zsr M a k v) a j = zr M a j := by rw [zr_si, if_neg (fun q => h q.2)]
