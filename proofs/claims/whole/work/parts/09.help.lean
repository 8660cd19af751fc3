/-! small rows for the walks -/
theorem z_inc (a : Nat) : nI a + Int32.ofInt 1 = nI (a + 1) := by rw [show Int32.ofInt 1 = nI 1 from by decide]; exact nI_add a 1
theorem z_inc3 (a : Nat) : nI a + Int32.ofInt 3 = nI (a + 3) := by rw [show Int32.ofInt 3 = nI 3 from by decide]; exact nI_add a 3
theorem z_inc4 (a : Nat) : nI a + Int32.ofInt 4 = nI (a + 4) := by rw [show Int32.ofInt 4 = nI 4 from by decide]; exact nI_add a 4
theorem z_dec {a : Nat} (h : 1 ≤ a) : nI a + Int32.ofInt (-1) = nI (a - 1) := by
  obtain ⟨b, rfl⟩ : ∃ b, a = b + 1 := ⟨a - 1, by omega⟩
  rw [show Int32.ofInt (-1) = -1 from by decide, pk_m1]; rfl
theorem zb_eq0 {a : Nat} (h : a < 2 ^ 31) : (nI a = 0) ↔ a = 0 := by rw [← nI_0]; exact nI_eq h (by omega)
theorem zb_ne0 {a : Nat} (h : a < 2 ^ 31) : (¬ nI a = 0) ↔ ¬ a = 0 := not_congr (zb_eq0 h)
theorem zb_lt0 {a : Nat} (h : a < 2 ^ 31) : (nI a < 0) ↔ False := ⟨fun q => nI_pos h q, False.elim⟩
theorem zb_ge0 {a : Nat} (h : a < 2 ^ 31) : (0 ≤ nI a) ↔ True := ⟨fun _ => trivial, fun _ => nI_pos' h⟩
theorem zb_gt0 {a : Nat} (h : a < 2 ^ 31) : (0 < nI a) ↔ 0 < a := by rw [← nI_0]; exact nI_ltI (by omega) h
theorem zb_le0 {a : Nat} (h : a < 2 ^ 31) : (nI a ≤ 0) ↔ a = 0 := by rw [← nI_0, nI_leI h (by omega)]; omega
theorem zl_ne0 {a : Nat} (h0 : 0 < a) (h : a < 2 ^ 63) : ¬ lN a = 0 := by
  rw [show (0 : Int64) = lN 0 from by decide, pk_lEQ h (by omega)]; omega
theorem zc_lt {a b : Nat} (ha : a < 2 ^ 63) (hb : b < 2 ^ 63) : (lg_cmp (lN a) (lN b) < 0) ↔ a < b := by
  have h1 := pk_lLT hb ha
  have h2 := pk_lEQ ha hb
  unfold lg_cmp
  by_cases c1 : lN a > lN b
  · rw [if_pos c1]; have := h1.mp c1; exact ⟨fun q => absurd q (by decide), fun q => by omega⟩
  · rw [if_neg c1]
    by_cases c2 : lN a = lN b
    · rw [if_pos c2]; have := h2.mp c2; exact ⟨fun q => absurd q (by decide), fun q => by omega⟩
    · rw [if_neg c2]
      have n1 : ¬ b < a := fun q => c1 (h1.mpr q)
      have n2 : ¬ a = b := fun q => c2 (h2.mpr q)
      exact ⟨fun _ => by omega, fun _ => by decide⟩
theorem zc_ge {a b : Nat} (ha : a < 2 ^ 63) (hb : b < 2 ^ 63) : (0 ≤ lg_cmp (lN a) (lN b)) ↔ b ≤ a := by
  have h := zc_lt ha hb
  rw [← Int32.not_lt, h]; omega
theorem zc_eq {a b : Nat} (ha : a < 2 ^ 63) (hb : b < 2 ^ 63) : (lg_cmp (lN a) (lN b) = 0) ↔ a = b := by
  have h1 := pk_lLT hb ha
  have h2 := pk_lEQ ha hb
  unfold lg_cmp
  by_cases c1 : lN a > lN b
  · rw [if_pos c1]; have := h1.mp c1; exact ⟨fun q => absurd q (by decide), fun q => by omega⟩
  · rw [if_neg c1]
    by_cases c2 : lN a = lN b
    · rw [if_pos c2]; exact ⟨fun _ => h2.mp c2, fun _ => rfl⟩
    · rw [if_neg c2]; exact ⟨fun q => absurd q (by decide), fun q => absurd (h2.mpr q) c2⟩
theorem zc_ne {a b : Nat} (ha : a < 2 ^ 63) (hb : b < 2 ^ 63) : (¬ lg_cmp (lN a) (lN b) = 0) ↔ ¬ a = b := not_congr (zc_eq ha hb)
theorem zi_si (M : zM) (a k : Nat) (v : Int32) (b j : Nat) : zi (zsi M a k v) b j = if b = a ∧ j = k then v else zi M b j := by
  simp only [zi, zsi, va_up]
  by_cases h : b = a
  · subst h; by_cases hj : j = k <;> simp [hj, va_up]
  · simp [h]
theorem zi_s (M : zM) (a k : Nat) (v : Int32) : zi (zsi M a k v) a k = v := by rw [zi_si, if_pos ⟨rfl, rfl⟩]
theorem zi_k {M : zM} {a k j : Nat} {v : Int32} (h : j ≠ k) : zi (zsi M a k v) a j = zi M a j := by rw [zi_si, if_neg (fun q => h q.2)]
theorem zi_a {M : zM} {a k b j : Nat} {v : Int32} (h : b ≠ a) : zi (zsi M a k v) b j = zi M b j := by rw [zi_si, if_neg (fun q => h q.1)]
theorem zi_b {M : zM} {a k b : Nat} {v : Int32} (h : b ≠ a) : (zsi M a k v).1 b = M.1 b := va_up_ne _ _ h
theorem zl_si (M : zM) (a k : Nat) (v : Int64) (b j : Nat) : zl (zsl M a k v) b j = if b = a ∧ j = k then v else zl M b j := by
  simp only [zl, zsl, va_up]
  by_cases h : b = a
  · subst h; by_cases hj : j = k <;> simp [hj, va_up]
  · simp [h]
theorem zr_si (M : zM) (a k v : Nat) (b j : Nat) : zr (zsr M a k v) b j = if b = a ∧ j = k then v else zr M b j := by
  simp only [zr, zsr, va_up]
  by_cases h : b = a
  · subst h; by_cases hj : j = k <;> simp [hj, va_up]
  · simp [h]
/-- induction by a measure -/
theorem z_loop {σ : Type} (μ : σ → Nat) (P : σ → Prop) (h : ∀ s, (∀ t, μ t < μ s → P t) → P s) : ∀ s, P s := by
  intro s
  generalize hn : μ s = n
  induction n using Nat.strongRecOn generalizing s with
  | _ n ih => exact h s (fun t ht => ih (μ t) (by omega) t rfl)
-- pasted from kit/laws/BITS.to-paste: the family bt
def bt (x : Int32) (i : Nat) : Bool := x.toBitVec.getLsbD i
theorem b_ext {x y : Int32} (h : ∀ i, i < 32 → bt x i = bt y i) : x = y := Int32.toBitVec_inj.mp (BitVec.eq_of_getLsbD_eq (fun i hi => h i hi))
theorem b_or (x y : Int32) (i : Nat) : bt (x ||| y) i = (bt x i || bt y i) := by unfold bt; rw [Int32.toBitVec_or, BitVec.getLsbD_or]
theorem b_and (x y : Int32) (i : Nat) : bt (x &&& y) i = (bt x i && bt y i) := by unfold bt; rw [Int32.toBitVec_and, BitVec.getLsbD_and]
theorem b_xor (x y : Int32) (i : Nat) : bt (x ^^^ y) i = (bt x i ^^ bt y i) := by unfold bt; rw [Int32.toBitVec_xor, BitVec.getLsbD_xor]
theorem b_big {x : Int32} {i : Nat} (h : 32 ≤ i) : bt x i = false := BitVec.getLsbD_of_ge _ _ h
theorem b_255 (i : Nat) : bt 255 i = decide (i < 8) := by
  rcases Nat.lt_or_ge i 32 with h | h
  · exact (by decide +kernel : ∀ i, i < 32 → bt 255 i = decide (i < 8)) i h
  · rw [b_big h, decide_eq_false (by omega)]
theorem b_65535 (i : Nat) : bt 65535 i = decide (i < 16) := by
  rcases Nat.lt_or_ge i 32 with h | h
  · exact (by decide +kernel : ∀ i, i < 32 → bt 65535 i = decide (i < 16)) i h
  · rw [b_big h, decide_eq_false (by omega)]
theorem b_m1 : ∀ i, i < 32 → bt (-1) i = true := by decide +kernel
theorem b_0 (i : Nat) : bt 0 i = false := BitVec.getLsbD_zero
theorem s_l : ∀ n, n < 32 → ((nI n &&& 31).toBitVec.smod 32).toNat = n := by decide +kernel
theorem s_u : ∀ n, n < 32 → (((nI n).toUInt32 &&& Int32.toUInt32 31).toBitVec % 32).toNat = n := by decide +kernel
theorem b_shl (n : Nat) (hn : n < 32) (x : Int32) {i : Nat} (hi : i < 32) : bt (x <<< (nI n &&& 31)) i = (decide (n ≤ i) && bt x (i - n)) := by
  unfold bt
  rw [Int32.toBitVec_shiftLeft]
  show (x.toBitVec <<< ((nI n &&& 31).toBitVec.smod 32).toNat).getLsbD i = _
  rw [s_l n hn, BitVec.getLsbD_shiftLeft]
  rcases Nat.lt_or_ge i n with h | h
  · simp [h, Nat.not_le.mpr h]
  · simp [hi, h, Nat.not_lt.mpr h]
theorem b_ushr (n : Nat) (hn : n < 32) (x : Int32) (i : Nat) : bt ((x.toUInt32 >>> ((nI n).toUInt32 &&& Int32.toUInt32 31)).toInt32) i = bt x (n + i) := by
  show (x.toUInt32 >>> ((nI n).toUInt32 &&& Int32.toUInt32 31)).toBitVec.getLsbD i = x.toUInt32.toBitVec.getLsbD (n + i)
  rw [UInt32.toBitVec_shiftRight]
  show (x.toUInt32.toBitVec >>> (((nI n).toUInt32 &&& Int32.toUInt32 31).toBitVec % 32).toNat).getLsbD i = _
  rw [s_u n hn, BitVec.getLsbD_ushiftRight]
theorem b_sshr (n : Nat) (hn : n < 32) (x : Int32) {i : Nat} (hi : i < 32) : bt (x >>> (nI n &&& 31)) i = if n + i < 32 then bt x (n + i) else bt x 31 := by
  unfold bt
  rw [Int32.toBitVec_shiftRight]
  show (x.toBitVec.sshiftRight ((nI n &&& 31).toBitVec.smod 32).toNat).getLsbD i = _
  rw [s_l n hn, BitVec.getLsbD_sshiftRight, BitVec.msb_eq_getLsbD_last]
  simp [hi]
theorem z_lp {α : Type} (μ : α → Nat) (P : α → zM → Prop) (h : ∀ a M, (∀ b M', μ b < μ a → P b M') → P a M) : ∀ a M, P a M := by
  intro a
  generalize hn : μ a = n
  induction n using Nat.strongRecOn generalizing a with
  | _ n ih => exact fun M => h a M (fun b M' hb => ih (μ b) (by omega) b rfl M')
/-- two bits of a word -/
def mDig (w : Int32) (j : Nat) : Nat := w.toBitVec.toNat / 4 ^ j % 4
theorem mDig_lt (w : Int32) (j : Nat) : mDig w j < 4 := by unfold mDig; omega
theorem z_dig {w : Int32} : ∀ j, j < 16 → ((w.toUInt32 >>> ((nI (2 * j)).toUInt32 &&& Int32.toUInt32 31)).toInt32 &&& nI 3) = nI (mDig w j) := by
  intro j hj
  rw [pk_and _ (m := nI 3) 2 (by decide)]
  have hs : ∀ j, j < 16 → (((nI (2 * j)).toUInt32 &&& Int32.toUInt32 31).toBitVec % 32).toNat = 2 * j := by decide +kernel
  rw [pk_ushr w (nI (2 * j)) (2 * j) (hs j hj)]
  unfold mDig
  rw [Nat.pow_mul]
theorem b_3 : ∀ i, i < 32 → bt (nI 3) i = decide (i < 2) := by decide +kernel
theorem z_digs {w : Int32} : ∀ j, j < 16 → ((w >>> (nI (2 * j) &&& 31)) &&& nI 3) = nI (mDig w j) := by
  intro j hj
  rw [← z_dig j hj]
  refine b_ext (fun i hi => ?_)
  rw [b_and, b_and, b_3 i hi, b_sshr (2 * j) (by omega) w hi, b_ushr (2 * j) (by omega) w i]
  by_cases h : i < 2
  · rw [if_pos (by omega)]
  · rw [decide_eq_false h, Bool.and_false, Bool.and_false]
