/-- the locals in another order, or fewer -/
theorem z_perm {f : zF} {E : zE} {Γ : zG} {n : Nat} {k : Nat × Nat} {M : zM} {pc : Nat} {lc lc' : List (Nat × Value)} {st : List Value} (hs : ∀ q, q ∈ lc' → q ∈ lc) (h : zGo f E Γ n k M pc lc' st) : zGo f E Γ n k M pc lc st :=
  fun H locs ls h1 h2 h3 h4 => h H locs ls h1 h2 h3 ⟨h4.1, h4.2.1, fun q hq => h4.2.2 q (hs q hq)⟩
theorem z_sw {f : zF} {E : zE} {Γ : zG} {n : Nat} {k : Nat × Nat} {M : zM} {pc : Nat} {a b : Nat × Value} {lc : List (Nat × Value)} {st : List Value} (h : zGo f E Γ n k M pc (b :: a :: lc) st) : zGo f E Γ n k M pc (a :: b :: lc) st :=
  z_perm (fun q hq => by simp only [List.mem_cons] at hq ⊢; rcases hq with h | h | h <;> simp [h]) h
set_option maxHeartbeats 4000000 in
set_option maxRecDepth 100000 in
/-- Arrays.fill -/
theorem c_JA_fill (l : Launch) (E : zE) (Γ : zG) (n : Nat) (M : zM) (A N : Nat) (x : Int32) (hg : Γ A = some (1, N)) (hN : N < 2 ^ 31) :
    zCt l E Y_JA_fill 0 (0, 0) [.ref A, .int x] Γ n M (zPv Γ n (fun M' => zOn (fun a => a = A) M M' ∧ ∀ j, j < N → zi M' A j = x)) := by
  refine zCt.of [(0, .ref A), (1, .int x)] (by decide) (Nat.le_of_ble_eq_true rfl) rfl (fun f hfl hx hQ => ?_)
  have loop : ∀ (i : Nat) (M1 : zM), i ≤ N → zOn (fun a => a = A) M M1 → (∀ j, j < i → zi M1 A j = x) → zGo f E Γ n (0, 0) M1 5 [(2, .int (nI i)), (3, .int (nI N)), (0, .ref A), (1, .int x)] [] := by
    refine z_lp (fun i => N - i) _ ?_
    intro i M1 ih hi hI hJ
    refine g_iload_n (q := 6) hx d_JA_fill_5 rfl rfl ?_
    refine g_iload_n (q := 7) hx d_JA_fill_6 rfl rfl ?_
    refine g_icmp_ge (q := 10) (t := 20) hx d_JA_fill_7 rfl rfl (nI_leI (by omega) (by omega)) (fun h7 => ?_) (fun h7 => ?_)
    · exact g_vret hx d_JA_fill_20 rfl hQ ⟨Nat.le_refl _, Nat.le_refl _⟩ ⟨rfl, rfl, rfl, hI, fun j hj => hJ j (by omega)⟩
    · refine g_aload_n (q := 11) hx d_JA_fill_10 rfl rfl ?_
      refine g_iload_n (q := 12) hx d_JA_fill_11 rfl rfl ?_
      refine g_iload_n (q := 13) hx d_JA_fill_12 rfl rfl ?_
      refine g_iast (q := 14) hx d_JA_fill_13 rfl (by assumption) rfl (by omega) hN ?_
      refine g_iinc (q := 17) (lc' := [(2, _), (3, _), (0, _), (1, _)]) hx d_JA_fill_14 rfl rfl (z_inc _) (by decide) rfl ?_
      refine g_goto (q := 5) hx d_JA_fill_17 rfl ?_
      refine ih (i + 1) _ (by show N - (i + 1) < N - i; omega) (by omega) (hI.si rfl) (fun j hj => ?_)
      by_cases e : j = i
      · subst e; rw [zi_s]
      · rw [zi_k e]; exact hJ j (by omega)
  refine g_iconst (q := 1) (v := nI 0) hx d_JA_fill_0 rfl (by decide) ?_
  refine g_istore_n (q := 2) (lc' := [(2, _), (0, _), (1, _)]) hx d_JA_fill_1 rfl (by decide) rfl ?_
  refine g_aload_n (q := 3) hx d_JA_fill_2 rfl rfl ?_
  refine g_alen (q := 4) (t := 0) hx d_JA_fill_3 rfl (by assumption) ?_
  refine g_istore_n (q := 5) (lc' := [(3, _), (2, _), (0, _), (1, _)]) hx d_JA_fill_4 rfl (by decide) rfl ?_
  exact z_sw (loop 0 M (Nat.zero_le _) zOn.rf (fun j hj => absurd hj (Nat.not_lt_zero _)))
set_option maxHeartbeats 4000000 in
set_option maxRecDepth 100000 in
theorem c_Co_renewE (l : Launch) (E : zE) (Γ : zG) (n : Nat) (M : zM) (X : Nat) (hs : pEs Γ M.2.2 X) :
    zCt l E Y_Co_renew 1 (0, 0) [.ref X] Γ n M (zPv Γ n (fun M' => zOm (sEn X) M M' ∧ zl M' X 1 = lN 4294967295 ∧ (∀ p, p < 58 → zi M' (X + 1) p = nI 1024) ∧ M'.1 X = M.1 X ∧ zl M' X 4 = zl M X 4 ∧ ∀ j, zi M' (X + 2) j = zi M (X + 2) j)) := by
  refine zCt.of [(0, .ref X)] (by decide) (Nat.le_of_ble_eq_true rfl) rfl (fun f hfl hx hQ => ?_)
  obtain ⟨hg0, hg1, hg2, hp0, hp2, hX0⟩ := hs
  have hp0 : zr M X 0 = X + 1 := hp0
  have hp2 : zr M X 2 = X + 2 := hp2
  refine g_aload_n (q := 1) hx d_Co_renew_0 rfl rfl ?_
  refine g_geta (q := 4) hx d_Co_renew_1 rfl fl_Co_9E (by assumption) (by assumption) (by omega) ?_
  refine g_sipush (q := 7) (v := nI 1024) hx d_Co_renew_4 rfl (by decide) ?_
  refine g_cv (q := 10) (zrunS hx d_Co_renew_7 lk_Co_21 rfl rfl (Nat.le_of_ble_eq_true rfl) (by decide) (by omega) (by omega) (c_JA_fill _ E Γ n _ (X + 1) 58 _ hg1 (by decide))) rfl (fun M7 p7 => ?_)
  obtain ⟨p1, p2⟩ := p7
  refine g_aload_n (q := 11) hx d_Co_renew_10 rfl rfl ?_
  refine g_ldc2 (q := 14) (v := lN 4294967295) hx d_Co_renew_11 rfl ct_Co_15 ?_
  refine g_putl (q := 17) hx d_Co_renew_14 rfl fl_Co_17E nf_2_1 (by assumption) ?_
  exact g_vret hx d_Co_renew_17 rfl hQ ⟨Nat.le_refl _, Nat.le_refl _⟩ ⟨rfl, rfl, rfl, (p1.om.mono (fun a q => Or.inr (by first | exact q | exact Or.inl q))).sl (Or.inl rfl), zl_s _ _ _ _, p2, p1.2 X (by omega), (zl_k (by omega)).trans (by show M7.2.1 X 4 = M.2.1 X 4; rw [p1.l]), fun j => by rw [zi_l, p1.i (by omega)]⟩
set_option maxHeartbeats 4000000 in
set_option maxRecDepth 100000 in
theorem c_Co_renewD (l : Launch) (E : zE) (Γ : zG) (n : Nat) (M : zM) (X : Nat) (hs : pDs Γ M.2.2 X) :
    zCt l E Y_Co_renew 1 (0, 0) [.ref X] Γ n M (zPv Γ n (fun M' => zOm (sDe X) M M' ∧ zl M' X 1 = lN 4294967295 ∧ (∀ p, p < 58 → zi M' (X + 1) p = nI 1024) ∧ M'.1 X = M.1 X ∧ zl M' X 5 = zl M X 5 ∧ ∀ j, zi M' (X + 2) j = zi M (X + 2) j)) := by
  refine zCt.of [(0, .ref X)] (by decide) (Nat.le_of_ble_eq_true rfl) rfl (fun f hfl hx hQ => ?_)
  obtain ⟨hg0, hg1, hg2, hp0, hp2, hX0⟩ := hs
  have hp0 : zr M X 0 = X + 1 := hp0
  have hp2 : zr M X 2 = X + 2 := hp2
  refine g_aload_n (q := 1) hx d_Co_renew_0 rfl rfl ?_
  refine g_geta (q := 4) hx d_Co_renew_1 rfl fl_Co_9D (by assumption) (by assumption) (by omega) ?_
  refine g_sipush (q := 7) (v := nI 1024) hx d_Co_renew_4 rfl (by decide) ?_
  refine g_cv (q := 10) (zrunS hx d_Co_renew_7 lk_Co_21 rfl rfl (Nat.le_of_ble_eq_true rfl) (by decide) (by omega) (by omega) (c_JA_fill _ E Γ n _ (X + 1) 58 _ hg1 (by decide))) rfl (fun M7 p7 => ?_)
  obtain ⟨p1, p2⟩ := p7
  refine g_aload_n (q := 11) hx d_Co_renew_10 rfl rfl ?_
  refine g_ldc2 (q := 14) (v := lN 4294967295) hx d_Co_renew_11 rfl ct_Co_15 ?_
  refine g_putl (q := 17) hx d_Co_renew_14 rfl fl_Co_17D nf_1_1 (by assumption) ?_
  exact g_vret hx d_Co_renew_17 rfl hQ ⟨Nat.le_refl _, Nat.le_refl _⟩ ⟨rfl, rfl, rfl, (p1.om.mono (fun a q => Or.inr (by first | exact q | exact Or.inl q))).sl (Or.inl rfl), zl_s _ _ _ _, p2, p1.2 X (by omega), (zl_k (by omega)).trans (by show M7.2.1 X 5 = M.2.1 X 5; rw [p1.l]), fun j => by rw [zi_l, p1.i (by omega)]⟩
/-! the encoder's step: it takes the decisions that are still to come -/
abbrev mEl : Type := mEn × List (Nat × Nat)
def eR (s : mEl) (p b : Nat) : Option (Nat × mEl) := match s.2 with
  | [] => none
  | x :: l => if x = (p, b) then some (b, (mPut s.1 x, l)) else none
/-- the decisions can be written -/
def mCan (s : mEn) (l : List (Nat × Nat)) : Prop := mEi s ∧ mGood l ∧ ∃ N, mPay s N ∧ N + mCos l ≤ 1936
theorem mCan.bytes {s : mEn} {l : List (Nat × Nat)} (h : mCan s l) : s.2.2.2.1 ≤ 242 := by
  obtain ⟨h1, -, N, h3, h4⟩ := h
  have := mPay_bytes h1 h3
  omega
theorem mCan.next {s : mEn} {x : Nat × Nat} {l : List (Nat × Nat)} (h : mCan s (x :: l)) : mCan (mPut s x) l := by
  obtain ⟨h1, h2, N, h3, h4⟩ := h
  obtain ⟨p, b⟩ := x
  obtain ⟨g1, g2⟩ := h2 (p, b) List.mem_cons_self
  simp only [mCos] at h4
  exact ⟨(mPut_ok h1 g1 g2).1, fun y hy => h2 y (List.mem_cons_of_mem _ hy), N + mCo (p, b), mPay_next h1 h3 g1 g2, by omega⟩
def eI (M0 : zM) (X : Nat) (M : zM) (s : mEl) : Prop := zOm (sEn X) M0 M ∧ pEn M X s.1 ∧ (∀ j, j < 3 → zi M (X + 2) j = zi M0 (X + 2) j) ∧ mCan s.1 s.2
theorem eBit {E : zE} {Γ : zG} {n X : Nat} {M0 : zM} (hs : pEs Γ M0.2.2 X) : zBit E Γ n X eR (eI M0 X) := by
  rintro M ⟨s, l⟩ p b b' ⟨t, l'⟩ x ⟨i1, i2, i3, i4⟩ hpx hb h
  unfold eR at h
  dsimp only at h i2 i4
  cases l with
  | nil => exact (nomatch h)
  | cons y l =>
    dsimp only at h
    split at h
    · rename_i e
      subst e
      obtain ⟨rfl, e2⟩ := Prod.mk.inj (Option.some.inj h)
      obtain ⟨rfl, rfl⟩ := Prod.mk.inj e2
      refine ⟨hb, fun la => ?_⟩
      have hb2 := i4.bytes
      refine (c_En_bit la E Γ n M X p b x s (by rw [i1.r]; exact hs) i2 i4.1 (by omega) hpx hb).mono ?_
      rintro v Γ' n' M' ⟨r, h1, h2, h3, h4, h5, h6, h7⟩
      exact ⟨r, h1, h2, h3, h4, i1.tr h5, h6, fun j hj => (h7 j hj).trans (i3 j hj), i4.next⟩
    · exact (nomatch h)
theorem eR_s (s : mEn) (p b : Nat) (l : List (Nat × Nat)) : eR (s, (p, b) :: l) p b = some (b, (mPut s (p, b), l)) := by simp [eR]
theorem eK (g v : Nat) (l : List (Nat × Nat)) : ∀ (n i : Nat) (s : mEn), xK eR (9 * g) v n i (s, mN1 g v n i ++ l) = some (mKk v n i, (mPuts s (mN1 g v n i), l))
  | 0, i, s => rfl
  | n + 1, i, s => by
    by_cases c : 2 ^ (i + 1) ≤ v + 1
    · simp only [xK, mN1, mKk, if_pos c, List.cons_append, eR_s, xB, Nat.one_ne_zero, if_false]
      exact eK g v l n (i + 1) _
    · simp only [xK, mN1, mKk, if_neg c, List.cons_append, List.nil_append, eR_s, xB, if_true]
      rfl
theorem m_bitsplit (w k : Nat) : w % 2 ^ (k + 1) = w / 2 ^ k % 2 * 2 ^ k + w % 2 ^ k := by
  rw [Nat.pow_succ, Nat.mod_mul, Nat.mul_comm (2 ^ k), Nat.add_comm]
theorem eV (v : Nat) (l : List (Nat × Nat)) : ∀ (k a : Nat) (s : mEn), xV eR v k a (s, mN2 v k ++ l) = some (a * 2 ^ k + (v + 1) % 2 ^ k, (mPuts s (mN2 v k), l))
  | 0, a, s => by simp [xV, mN2, mPuts, Nat.mod_one]
  | k + 1, a, s => by
    simp only [xV, mN2, List.cons_append, eR_s, xB]
    rw [eV v l k _ _]
    have e : (2 * a + (v + 1) / 2 ^ k % 2) * 2 ^ k + (v + 1) % 2 ^ k = a * 2 ^ (k + 1) + (v + 1) % 2 ^ (k + 1) := by
      rw [m_bitsplit (v + 1) k, Nat.add_mul, Nat.pow_succ, ← Nat.add_assoc, Nat.mul_comm 2 a, Nat.mul_assoc, Nat.mul_comm 2 (2 ^ k)]
    rw [e]
    rfl
theorem m_kk : ∀ v, v < 161 → 1 * 2 ^ mKk v 9 0 + (v + 1) % 2 ^ mKk v 9 0 = v + 1 := by decide +kernel
theorem eN {g v : Nat} (hv : v < 161) (s : mEn) (l : List (Nat × Nat)) : xN eR (9 * g) v (s, mNum g v ++ l) = some (v, (mPuts s (mNum g v), l)) := by
  unfold xN mNum
  rw [List.append_assoc, eK]
  simp only [xB]
  rw [eV, m_kk v hv, mPuts_app]
  simp
theorem eKd {b k : Nat} (hk : k < 5) (s : mEn) (l : List (Nat × Nat)) : xKd eR b k (s, mKind b k ++ l) = some (k, (mPuts s (mKind b k), l)) := by
  obtain rfl | rfl | rfl | rfl | rfl : k = 0 ∨ k = 1 ∨ k = 2 ∨ k = 3 ∨ k = 4 := by omega
  all_goals simp [xKd, mKind, eR_s, xB, mPuts]
theorem eE {ref : Nat → Nat} {len at_ k m : Nat} (hl : len ≤ 160) (hr : ∀ j, ref j < 4) (h : mFit ref len at_ (k, m)) (s : mEn) (l : List (Nat × Nat)) : xE eR ref at_ k m (s, mEdN ref at_ (k, m) ++ l) = some (m, (mPuts s (mEdN ref at_ (k, m)), l)) := by
  unfold mFit at h
  dsimp only at h
  rcases h with ⟨h0, h1, h2⟩ | ⟨rfl, h1, h2, h3⟩ | ⟨rfl, h1⟩
  · rcases h0 with rfl | rfl
    · simp only [xE, mEdN, if_true]
      rw [show (9 : Nat) = 9 * 1 from rfl, eN (by omega)]
      simp only [xB]
      rw [Nat.sub_add_cancel h1]
    · simp only [xE, mEdN, if_true, if_false, Nat.reduceEqDiff]
      rw [show (18 : Nat) = 9 * 2 from rfl, eN (by omega)]
      simp only [xB]
      rw [Nat.sub_add_cancel h1]
  · simp only [xE, mEdN, if_true, if_false, Nat.reduceEqDiff]
    have hra := hr at_
    unfold xC
    by_cases c : mChg (ref at_) m = 0
    · simp only [if_pos c, List.cons_append, List.nil_append, eR_s, xB, Nat.reduceEqDiff, if_false]
      have e : (if 0 < ref at_ then 0 else 0 + 1) = m := by
        unfold mChg at c
        split at c <;> split <;> omega
      rw [e]; rfl
    · simp only [if_neg c, List.cons_append, List.nil_append, eR_s, xB, if_true]
      have e : (if 1 + (if mChg (ref at_) m = 1 then 0 else 1) < ref at_ then 1 + (if mChg (ref at_) m = 1 then 0 else 1) else 1 + (if mChg (ref at_) m = 1 then 0 else 1) + 1) = m := by
        have hq : mChg (ref at_) m = 1 ∨ mChg (ref at_) m = 2 := by
          unfold mChg at c ⊢
          split at c <;> split <;> omega
        have hq2 : mChg (ref at_) m = m ∧ m < ref at_ ∨ mChg (ref at_) m + 1 = m ∧ ref at_ < m := by
          unfold mChg at c ⊢
          split at c <;> split <;> omega
        generalize mChg (ref at_) m = z at hq hq2
        rcases hq with rfl | rfl
        · rw [if_pos rfl]; split <;> omega
        · rw [if_neg (by decide : ¬ 2 = 1)]; split <;> omega
      rw [e]; rfl
  · simp only [xE, mEdN, if_false, Nat.reduceEqDiff, xI, List.cons_append, List.nil_append, eR_s, xB]
    have e : 2 * (m / 2) + m % 2 = m := by omega
    rw [e]; rfl
