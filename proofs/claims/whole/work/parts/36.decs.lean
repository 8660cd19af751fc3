/-! the decoder's step, with how many bits may still come -/
abbrev mDf : Type := mDe × Nat
def dR (by_ : Nat → Nat) (s : mDf) (p b : Nat) : Option (Nat × mDf) := match s.2 with
  | 0 => none
  | k + 1 => some (mBit s.1 p, (mGet by_ s.1 p, k))
theorem dR_s (by_ : Nat → Nat) (s : mDe) (k p b : Nat) : dR by_ (s, k + 1) p b = some (mBit s p, (mGet by_ s p, k)) := rfl
def dI (M0 : zM) (X m : Nat) (by_ : Nat → Nat) (M : zM) (s : mDf) : Prop := zOm (sDe X) M0 M ∧ pDe M X m by_ s.1 ∧ mDi s.1 ∧ s.1.2.2.2 + s.2 < 100000
theorem mGet_nx (by_ : Nat → Nat) (s : mDe) (p : Nat) : (mGet by_ s p).2.2.2 ≤ s.2.2.2 + 1 := by
  unfold mGet; split
  · exact Nat.le_refl _
  · exact Nat.le_succ _
theorem dBit {E : zE} {Γ : zG} {n X m : Nat} {by_ : Nat → Nat} {M0 : zM} (hs : pDs Γ M0.2.2 X) : zBit E Γ n X (dR by_) (dI M0 X m by_) := by
  rintro M ⟨s, k⟩ p b b' ⟨t, k'⟩ x ⟨i1, i2, i3, i4⟩ hpx hb h
  cases k with
  | zero => exact (nomatch h)
  | succ k =>
    rw [dR_s] at h
    obtain ⟨rfl, e2⟩ := Prod.mk.inj (Option.some.inj h)
    obtain ⟨rfl, rfl⟩ := Prod.mk.inj e2
    dsimp only at i2 i3 i4
    have hp58 : p ≤ 58 := by omega
    refine ⟨mBit_lt s p, fun la => ?_⟩
    refine (c_De_bit la E Γ n M X p b m x by_ s (by rw [i1.r]; exact hs) i2 i3 (by omega) hpx hb).mono ?_
    rintro v Γ' n' M' ⟨r, h1, h2, h3, h4, h5, h6⟩
    have := mGet_nx by_ s p
    exact ⟨r, h1, h2, h3, h4, i1.tr h5, h6, mGet_ok i2.2.2.2.2.2.2.2.2 i3 hp58, by dsimp only; omega⟩
theorem mGk_le (by_ : Nat → Nat) (g : Nat) : ∀ (n i : Nat) (s : mDe), (mGk by_ g n i s).1 ≤ i + n
  | 0, i, s => Nat.le_refl _
  | n + 1, i, s => by
    simp only [mGk]
    split
    · have := mGk_le by_ g n (i + 1) (mGet by_ s (9 * g + i)); omega
    · show i ≤ i + (n + 1); omega
theorem dK {by_ : Nat → Nat} {g v : Nat} : ∀ (n i : Nat) (s : mDe) (k : Nat), n ≤ k → ∃ k', k ≤ k' + n ∧ xK (dR by_) (9 * g) v n i (s, k) = some ((mGk by_ g n i s).1, ((mGk by_ g n i s).2, k'))
  | 0, i, s, k, _ => ⟨k, by omega, rfl⟩
  | n + 1, i, s, k, h => by
    obtain ⟨k, rfl⟩ : ∃ j, k = j + 1 := ⟨k - 1, by omega⟩
    have hb := mBit_lt s (9 * g + i)
    by_cases c : mBit s (9 * g + i) = 1
    · obtain ⟨k', h1, h2⟩ := dK (by_ := by_) (g := g) (v := v) n (i + 1) (mGet by_ s (9 * g + i)) k (by omega)
      refine ⟨k', by omega, ?_⟩
      simp only [xK, dR_s, xB, mGk, if_pos c]
      rw [if_neg (by omega)]
      exact h2
    · refine ⟨k, by omega, ?_⟩
      simp only [xK, dR_s, xB, mGk, if_neg c]
      rw [if_pos (by omega)]
theorem dV {by_ : Nat → Nat} {v : Nat} : ∀ (n a : Nat) (s : mDe) (k : Nat), n ≤ k → xV (dR by_) v n a (s, k) = some ((mGv by_ n a s).1, ((mGv by_ n a s).2, k - n))
  | 0, a, s, k, _ => rfl
  | n + 1, a, s, k, h => by
    obtain ⟨k, rfl⟩ : ∃ j, k = j + 1 := ⟨k - 1, by omega⟩
    simp only [xV, dR_s, xB, mGv]
    rw [dV n _ _ k (by omega), Nat.add_sub_add_right]
theorem mGv_lt (by_ : Nat → Nat) : ∀ (n a : Nat) (s : mDe), (mGv by_ n a s).1 < (a + 1) * 2 ^ n
  | 0, a, s => by simp [mGv]
  | n + 1, a, s => by
    simp only [mGv]
    have h1 := mGv_lt by_ n (2 * a + mBit s 58) (mGet by_ s 58)
    have h2 := mBit_lt s 58
    have h3 : (2 * a + mBit s 58 + 1) * 2 ^ n ≤ (2 * (a + 1)) * 2 ^ n := Nat.mul_le_mul_right _ (by omega)
    have h4 : (a + 1) * 2 ^ (n + 1) = (2 * (a + 1)) * 2 ^ n := by rw [Nat.pow_succ, Nat.mul_comm 2 (a + 1), Nat.mul_assoc, Nat.mul_comm 2]
    omega
theorem mGv_ge (by_ : Nat → Nat) : ∀ (n a : Nat) (s : mDe), 1 ≤ a → 1 ≤ (mGv by_ n a s).1
  | 0, a, s, h => h
  | n + 1, a, s, h => by
    simp only [mGv]
    exact mGv_ge by_ n _ _ (by omega)
theorem mGn_lt (by_ : Nat → Nat) (g : Nat) (s : mDe) : (mGn by_ g s).1 < 1023 := by
  unfold mGn
  have h1 := mGk_le by_ g 9 0 s
  have h2 := mGv_lt by_ (mGk by_ g 9 0 s).1 1 (mGk by_ g 9 0 s).2
  have h4 := mGv_ge by_ (mGk by_ g 9 0 s).1 1 (mGk by_ g 9 0 s).2 (by omega)
  have h3 : (1 + 1) * 2 ^ (mGk by_ g 9 0 s).1 ≤ (1 + 1) * 2 ^ 9 := Nat.mul_le_mul_left _ (Nat.pow_le_pow_right (by omega) (by omega))
  dsimp only
  omega
theorem dN {by_ : Nat → Nat} {g v : Nat} (s : mDe) (k : Nat) (hk : 18 ≤ k) : ∃ k', k ≤ k' + 18 ∧ xN (dR by_) (9 * g) v (s, k) = some ((mGn by_ g s).1, ((mGn by_ g s).2, k')) := by
  obtain ⟨k1, h1, h2⟩ := dK (by_ := by_) (g := g) (v := v) 9 0 s k (by omega)
  have h3 := mGk_le by_ g 9 0 s
  have h4 := dV (by_ := by_) (v := v) (mGk by_ g 9 0 s).1 1 (mGk by_ g 9 0 s).2 k1 (by omega)
  refine ⟨k1 - (mGk by_ g 9 0 s).1, by omega, ?_⟩
  unfold xN mGn
  rw [h2]
  simp only [xB]
  rw [h4]
theorem dKd {by_ : Nat → Nat} {b kd : Nat} (s : mDe) (k : Nat) (hk : 4 ≤ k) : ∃ k', k ≤ k' + 4 ∧ xKd (dR by_) b kd (s, k) = some ((mGkd by_ b s).1, ((mGkd by_ b s).2, k')) := by
  obtain ⟨k, rfl⟩ : ∃ j, k = j + 1 + 1 + 1 + 1 := ⟨k - 4, by omega⟩
  by_cases c1 : mBit s (27 + 4 * b) = 0
  · refine ⟨k + 1 + 1 + 1, by omega, ?_⟩
    simp only [xKd, mGkd, dR_s, xB, if_pos c1]
  · by_cases c2 : mBit (mGet by_ s (27 + 4 * b)) (27 + 4 * b + 1) = 0
    · refine ⟨k + 1 + 1, by omega, ?_⟩
      simp only [xKd, mGkd, dR_s, xB, if_neg c1, if_pos c2]
    · by_cases c3 : mBit (mGet by_ (mGet by_ s (27 + 4 * b)) (27 + 4 * b + 1)) (27 + 4 * b + 2) = 0
      · refine ⟨k + 1, by omega, ?_⟩
        simp only [xKd, mGkd, dR_s, xB, if_neg c1, if_neg c2, if_pos c3]
      · refine ⟨k, by omega, ?_⟩
        simp only [xKd, mGkd, dR_s, xB, if_neg c1, if_neg c2, if_neg c3]
theorem mGkd_lt (by_ : Nat → Nat) (b : Nat) (s : mDe) : (mGkd by_ b s).1 < 5 := by
  unfold mGkd
  split
  · show 0 < 5; omega
  · split
    · show 4 < 5; omega
    · split
      · show 1 < 5; omega
      · dsimp only; split <;> omega
theorem dE {by_ : Nat → Nat} {ref : Nat → Nat} {at_ kd : Nat} (hk4 : kd < 4) (s : mDe) (k : Nat) (hk : 18 ≤ k) : ∃ k', k ≤ k' + 18 ∧ xE (dR by_) ref at_ kd 1 (s, k) = some ((mGe by_ ref at_ kd s).1, ((mGe by_ ref at_ kd s).2, k')) := by
  obtain rfl | rfl | rfl | rfl : kd = 0 ∨ kd = 1 ∨ kd = 2 ∨ kd = 3 := by omega
  · obtain ⟨k', h1, h2⟩ := dN (by_ := by_) (g := 1) (v := 1 - 1) s k hk
    refine ⟨k', h1, ?_⟩
    have h2 : xN (dR by_) 9 (1 - 1) (s, k) = _ := h2
    simp only [xE, mGe, if_true, h2, xB]
  · obtain ⟨k, rfl⟩ : ∃ j, k = j + 1 + 1 := ⟨k - 2, by omega⟩
    simp only [xE, mGe, if_true, if_false, Nat.reduceEqDiff, Nat.one_ne_zero, xC, dR_s, xB]
    have hb := mBit_lt s (47 + 2 * ref at_)
    by_cases c : mBit s (47 + 2 * ref at_) = 0
    · refine ⟨k + 1, by omega, ?_⟩
      rw [if_neg (by omega), if_pos c, c]
    · refine ⟨k, by omega, ?_⟩
      rw [if_pos (by omega), if_neg c]
  · obtain ⟨k, rfl⟩ : ∃ j, k = j + 1 + 1 := ⟨k - 2, by omega⟩
    refine ⟨k, by omega, ?_⟩
    simp only [xE, mGe, if_false, Nat.reduceEqDiff, xI, dR_s, xB]
  · obtain ⟨k', h1, h2⟩ := dN (by_ := by_) (g := 2) (v := 1 - 1) s k hk
    refine ⟨k', h1, ?_⟩
    have h2 : xN (dR by_) 18 (1 - 1) (s, k) = _ := h2
    simp only [xE, mGe, if_true, if_false, Nat.reduceEqDiff, h2, xB]
theorem mGe_le (by_ : Nat → Nat) (ref : Nat → Nat) (at_ kd : Nat) (s : mDe) (hr : ∀ j, ref j < 4) : (mGe by_ ref at_ kd s).1 ≤ 1023 := by
  unfold mGe
  split
  · have := mGn_lt by_ 1 s; dsimp only; omega
  · split
    · have := mGn_lt by_ 2 s; dsimp only; omega
    · split
      · split
        · dsimp only; split <;> omega
        · have := mBit_lt (mGet by_ s (47 + 2 * ref at_)) (47 + 2 * ref at_ + 1)
          dsimp only; split <;> omega
      · have := mBit_lt s 55
        have := mBit_lt (mGet by_ s 55) (56 + mBit s 55)
        dsimp only; omega
set_option maxHeartbeats 4000000 in
set_option maxRecDepth 100000 in
/-- open(archive, begin) -/
theorem c_De_open (l : Launch) (E : zE) (Γ : zG) (n : Nat) (M : zM) (X A size b rl : Nat) (arch by_ : Nat → Nat) (hs : pDs Γ M.2.2 X) (hAs : pAs Γ M.2.2 A) (hAr : pAr M A size arch) (hAX : A ≠ X ∧ A ≠ X + 1 ∧ A ≠ X + 2 ∧ A + 1 ≠ X) (hw : b + 5 + rl ≤ size) (hrl : mRlen arch size b = rl) (hby : by_ = mBy arch (b + 3) rl) :
    zCt l E Y_De_open 2 (0, 0) [.ref X, .ref A, .int (nI b)] Γ n M (zPi Γ n (fun v M' => zOm (fun a => a = X ∨ a = X + 1 ∨ a = X + 2) M M' ∧ pDe M' X rl by_ (mD0 by_) ∧ (v = nI 1 ∧ (mD0 by_).1 < 4294967295 ∨ v = nI 0 ∧ ¬ (mD0 by_).1 < 4294967295))) := by
  refine zCt.of [(0, .ref X), (1, .ref A), (2, .int (nI b))] (by decide) (Nat.le_of_ble_eq_true rfl) rfl (fun f hfl hx hQ => ?_)
  have hs0 := hs
  have hgA := hAs.1
  obtain ⟨hg0, hg1, hg2, hp0, hp2, hX0⟩ := hs
  have hp0 : zr M X 0 = X + 1 := hp0
  have hp2 : zr M X 2 = X + 2 := hp2
  have hsz := hAr.2.2.1
  have hrl255 : rl ≤ 255 := by
    have := mRlen_lt hAr.2.2.2 size b
    omega
  refine g_aload_n (q := 1) hx d_De_open_0 rfl rfl ?_
  refine g_cv (q := 4) (zrunU hx d_De_open_1 rfl lk_De_26 (by assumption) rfl rfl (Nat.le_of_ble_eq_true rfl) (by decide) (by omega) (by omega) (c_Co_renewD _ E Γ n _ X hs0)) rfl (fun M1 p1 => ?_)
  obtain ⟨r1, r2, r3, r4, r5, r6⟩ := p1
  have hAs1 : pAs Γ M1.2.2 A := by rw [r1.r]; exact hAs
  have hAr1 : pAr M1 A size arch := hAr.kept (r1.2 _ (by unfold sDe; omega)).1 (r1.2 _ (by unfold sDe; omega)).1
  refine g_aload_n (q := 5) hx d_De_open_4 rfl rfl ?_
  refine g_aload_n (q := 6) hx d_De_open_5 rfl rfl ?_
  refine g_iload_n (q := 7) hx d_De_open_6 rfl rfl ?_
  refine g_ci (q := 10) (zrunV hx d_De_open_7 lk_De_29 rfl rfl (by assumption) rfl rfl (Nat.le_of_ble_eq_true rfl) (by decide) (by omega) (by omega) (c_Ar_rowLength _ E Γ n _ A size arch b hAs1 hAr1 (by omega))) rfl (fun r7 M7 p7 => ?_)
  obtain ⟨rfl, rfl⟩ := p7
  have hrl0 : mRlen arch size b = rl := hrl
  rw [hrl0]
  refine g_puti (q := 13) hx d_De_open_10 rfl fl_De_15 nf_1_3 (by assumption) ?_
  have hAp : zr (zsi M7 X 3 (nI rl)) A 0 = A + 1 := by
    show M7.2.2 A 0 = _
    exact hAs1.2.2.1
  have hXp : zr (zsi M7 X 3 (nI rl)) X 2 = X + 2 := by
    show M7.2.2 X 2 = _
    rw [r1.r]; exact hp2
  have hA0 := hAs.2.2.2
  refine g_aload_n (q := 14) hx d_De_open_13 rfl rfl ?_
  refine g_geta (q := 17) hx d_De_open_14 rfl fl_De_34 hAs.1 hAp (by omega) ?_
  refine g_iload_n (q := 18) hx d_De_open_17 rfl rfl ?_
  refine g_iconst (q := 19) (v := nI 3) hx d_De_open_18 rfl (by decide) ?_
  refine g_iadd (q := 20) hx d_De_open_19 rfl (nI_add _ _) ?_
  refine g_aload_n (q := 21) hx d_De_open_20 rfl rfl ?_
  refine g_geta (q := 24) hx d_De_open_21 rfl fl_De_9 (by assumption) hXp (by omega) ?_
  refine g_iconst (q := 25) (v := nI 0) hx d_De_open_24 rfl (by decide) ?_
  refine g_aload_n (q := 26) hx d_De_open_25 rfl rfl ?_
  refine g_geti (q := 29) hx d_De_open_26 rfl fl_De_15 (by assumption) (zi_s _ _ _ _) ?_
  refine g_copy (q := 32) hx d_De_open_29 rfl (by decide) cpl_De_37 cp_nat cp_st cp_ini hAs.2.1 hg2 (by omega) (by omega) (by decide) (by decide) (by decide) ?_
  refine g_aload_n (q := 33) hx d_De_open_32 rfl rfl ?_
  refine g_iconst (q := 34) (v := nI 0) hx d_De_open_33 rfl (by decide) ?_
  refine g_puti (q := 37) hx d_De_open_34 rfl fl_De_19 nf_1_4 (by assumption) ?_
  refine g_aload_n (q := 38) hx d_De_open_37 rfl rfl ?_
  refine g_lconst (q := 39) (v := lN 0) hx d_De_open_38 rfl (by decide) ?_
  refine g_putl (q := 42) hx d_De_open_39 rfl fl_De_22 nf_1_5 (by assumption) ?_
  obtain ⟨Mc, hMc⟩ : ∃ Mc, Mc = zsl (zsi (zcp (zsi M7 X 3 (nI rl)) (A + 1) (X + 2) (b + 3) 0 rl) X 4 (nI 0)) X 5 (lN 0) := ⟨_, rfl⟩
  rw [← hMc]
  have T0 : zOm (fun a => a = X ∨ a = X + 1 ∨ a = X + 2) M Mc := by
    rw [hMc]
    refine zOm.sl (zOm.si ?_ (Or.inl rfl)) (Or.inl rfl)
    refine ⟨r1.1, fun a ha => ?_⟩
    have hr := r1.2 a (by unfold sDe; omega)
    refine ⟨?_, hr.2⟩
    rw [← hr.1]
    exact (va_up_ne _ _ (by omega)).trans (va_up_ne _ _ (by omega))
  have U0 : zl Mc X 5 = lN 0 := by rw [hMc, zl_s]
  have W0 : zl Mc X 1 = lN 4294967295 := by rw [hMc, zl_k (by omega)]; exact r2
  have G0 : ∀ p, p < 58 → zi Mc (X + 1) p = nI 1024 := fun p hp => by
    rw [hMc, zi_l, zi_a (by omega), zi_cp, if_neg (by omega), zi_a (by omega)]; exact r3 p hp
  have D0 : pDr Mc X rl 0 by_ := by
    refine ⟨?_, ?_, fun j hj => ?_, by omega, fun j hj => ?_, fun j => ?_⟩
    · rw [hMc, zi_l, zi_k (by omega), zi_cp, if_neg (by omega), zi_s]
    · rw [hMc, zi_l, zi_s]
    · rw [hMc, zi_l, zi_a (by omega), zi_cp, if_pos ⟨rfl, by omega, by omega⟩, zi_a (by omega), Nat.sub_zero]
      rw [hAr1.2.1 _ (by omega), hby]
      unfold mBy
      rw [if_pos hj]
    · rw [hby]; unfold mBy; rw [if_neg (by omega)]
    · rw [hby]; unfold mBy; split
      · exact hAr.2.2.2 _
      · omega
  have B0 := D0.2.2.2.2.2 0
  have B1 := D0.2.2.2.2.2 1
  have B2 := D0.2.2.2.2.2 2
  have B3 := D0.2.2.2.2.2 3
  clear hMc
  refine g_iconst (q := 43) (v := nI 0) hx d_De_open_42 rfl (by decide) ?_
  refine g_istore_n (q := 44) (lc' := [(3, _), (0, _), (1, _), (2, _)]) hx d_De_open_43 rfl (by decide) rfl ?_
  refine g_iload_n (q := 45) hx d_De_open_44 rfl rfl ?_
  refine g_iconst (q := 46) (v := nI 4) hx d_De_open_45 rfl (by decide) ?_
  refine g_icmp_ge (q := 49) (t := 59) hx d_De_open_46 rfl rfl (nI_leI (by omega) (by omega)) (fun h46 => ?_) (fun h46 => ?_)
  · exact absurd h46 (by omega)
  · refine g_aload_n (q := 50) hx d_De_open_49 rfl rfl ?_
    have hS0 : pDs Γ Mc.2.2 X := by rw [T0.r]; exact hs0
    refine g_cv (q := 53) (zrunV hx d_De_open_50 lk_De_43 rfl rfl (by assumption) rfl rfl (Nat.le_of_ble_eq_true rfl) (by decide) (by omega) (by omega) (c_De_shiftByte _ E Γ n _ X 0 rl 0 by_ hS0 U0 (by omega) D0 (by omega))) rfl (fun M80 p50 => ?_)
    obtain ⟨t0, u0, w0, x0, y0⟩ := p50
    have T1 := T0.tr (t0.mono (fun a q => Or.inl q))
    have U1 := u0
    have W1 := w0.trans W0
    have G1 : ∀ p, p < 58 → zi M80 (X + 1) p = nI 1024 := fun p hp => (t0.i (by omega) _).trans (G0 p hp)
    have D1 : pDr M80 X rl 1 by_ := ⟨y0.trans D0.1, x0, fun j hj => (t0.i (by omega) _).trans (D0.2.2.1 j hj), D0.2.2.2⟩
    refine g_iinc (q := 56) (lc' := [(3, _), (0, _), (1, _), (2, _)]) hx d_De_open_53 rfl rfl (z_inc _) (by decide) rfl ?_
    refine g_goto (q := 44) hx d_De_open_56 rfl ?_
    refine g_iload_n (q := 45) hx d_De_open_44 rfl rfl ?_
    refine g_iconst (q := 46) (v := nI 4) hx d_De_open_45 rfl (by decide) ?_
    refine g_icmp_ge (q := 49) (t := 59) hx d_De_open_46 rfl rfl (nI_leI (by omega) (by omega)) (fun h46 => ?_) (fun h46 => ?_)
    · exact absurd h46 (by omega)
    · refine g_aload_n (q := 50) hx d_De_open_49 rfl rfl ?_
      have hS1 : pDs Γ M80.2.2 X := by rw [T1.r]; exact hs0
      refine g_cv (q := 53) (zrunV hx d_De_open_50 lk_De_43 rfl rfl (by assumption) rfl rfl (Nat.le_of_ble_eq_true rfl) (by decide) (by omega) (by omega) (c_De_shiftByte _ E Γ n _ X (0 * 256 + by_ 0) rl 1 by_ hS1 U1 (by omega) D1 (by omega))) rfl (fun M81 p50 => ?_)
      obtain ⟨t1, u1, w1, x1, y1⟩ := p50
      have T2 := T1.tr (t1.mono (fun a q => Or.inl q))
      have U2 := u1
      have W2 := w1.trans W1
      have G2 : ∀ p, p < 58 → zi M81 (X + 1) p = nI 1024 := fun p hp => (t1.i (by omega) _).trans (G1 p hp)
      have D2 : pDr M81 X rl 2 by_ := ⟨y1.trans D1.1, x1, fun j hj => (t1.i (by omega) _).trans (D1.2.2.1 j hj), D1.2.2.2⟩
      refine g_iinc (q := 56) (lc' := [(3, _), (0, _), (1, _), (2, _)]) hx d_De_open_53 rfl rfl (z_inc _) (by decide) rfl ?_
      refine g_goto (q := 44) hx d_De_open_56 rfl ?_
      refine g_iload_n (q := 45) hx d_De_open_44 rfl rfl ?_
      refine g_iconst (q := 46) (v := nI 4) hx d_De_open_45 rfl (by decide) ?_
      refine g_icmp_ge (q := 49) (t := 59) hx d_De_open_46 rfl rfl (nI_leI (by omega) (by omega)) (fun h46 => ?_) (fun h46 => ?_)
      · exact absurd h46 (by omega)
      · refine g_aload_n (q := 50) hx d_De_open_49 rfl rfl ?_
        have hS2 : pDs Γ M81.2.2 X := by rw [T2.r]; exact hs0
        refine g_cv (q := 53) (zrunV hx d_De_open_50 lk_De_43 rfl rfl (by assumption) rfl rfl (Nat.le_of_ble_eq_true rfl) (by decide) (by omega) (by omega) (c_De_shiftByte _ E Γ n _ X ((0 * 256 + by_ 0) * 256 + by_ 1) rl 2 by_ hS2 U2 (by omega) D2 (by omega))) rfl (fun M82 p50 => ?_)
        obtain ⟨t2, u2, w2, x2, y2⟩ := p50
        have T3 := T2.tr (t2.mono (fun a q => Or.inl q))
        have U3 := u2
        have W3 := w2.trans W2
        have G3 : ∀ p, p < 58 → zi M82 (X + 1) p = nI 1024 := fun p hp => (t2.i (by omega) _).trans (G2 p hp)
        have D3 : pDr M82 X rl 3 by_ := ⟨y2.trans D2.1, x2, fun j hj => (t2.i (by omega) _).trans (D2.2.2.1 j hj), D2.2.2.2⟩
        refine g_iinc (q := 56) (lc' := [(3, _), (0, _), (1, _), (2, _)]) hx d_De_open_53 rfl rfl (z_inc _) (by decide) rfl ?_
        refine g_goto (q := 44) hx d_De_open_56 rfl ?_
        refine g_iload_n (q := 45) hx d_De_open_44 rfl rfl ?_
        refine g_iconst (q := 46) (v := nI 4) hx d_De_open_45 rfl (by decide) ?_
        refine g_icmp_ge (q := 49) (t := 59) hx d_De_open_46 rfl rfl (nI_leI (by omega) (by omega)) (fun h46 => ?_) (fun h46 => ?_)
        · exact absurd h46 (by omega)
        · refine g_aload_n (q := 50) hx d_De_open_49 rfl rfl ?_
          have hS3 : pDs Γ M82.2.2 X := by rw [T3.r]; exact hs0
          refine g_cv (q := 53) (zrunV hx d_De_open_50 lk_De_43 rfl rfl (by assumption) rfl rfl (Nat.le_of_ble_eq_true rfl) (by decide) (by omega) (by omega) (c_De_shiftByte _ E Γ n _ X (((0 * 256 + by_ 0) * 256 + by_ 1) * 256 + by_ 2) rl 3 by_ hS3 U3 (by omega) D3 (by omega))) rfl (fun M83 p50 => ?_)
          obtain ⟨t3, u3, w3, x3, y3⟩ := p50
          have T4 := T3.tr (t3.mono (fun a q => Or.inl q))
          have U4 := u3
          have W4 := w3.trans W3
          have G4 : ∀ p, p < 58 → zi M83 (X + 1) p = nI 1024 := fun p hp => (t3.i (by omega) _).trans (G3 p hp)
          have D4 : pDr M83 X rl 4 by_ := ⟨y3.trans D3.1, x3, fun j hj => (t3.i (by omega) _).trans (D3.2.2.1 j hj), D3.2.2.2⟩
          refine g_iinc (q := 56) (lc' := [(3, _), (0, _), (1, _), (2, _)]) hx d_De_open_53 rfl rfl (z_inc _) (by decide) rfl ?_
          refine g_goto (q := 44) hx d_De_open_56 rfl ?_
          refine g_iload_n (q := 45) hx d_De_open_44 rfl rfl ?_
          refine g_iconst (q := 46) (v := nI 4) hx d_De_open_45 rfl (by decide) ?_
          refine g_icmp_ge (q := 49) (t := 59) hx d_De_open_46 rfl rfl (nI_leI (by omega) (by omega)) (fun h46 => ?_) (fun h46 => ?_)
          · have hv4 : ((((0 * 256 + by_ 0) * 256 + by_ 1) * 256 + by_ 2) * 256 + by_ 3) = (mD0 by_).1 := by show _ = ((by_ 0 * 256 + by_ 1) * 256 + by_ 2) * 256 + by_ 3; omega
            refine g_aload_n (q := 60) hx d_De_open_59 rfl rfl ?_
            refine g_getl (q := 63) hx d_De_open_60 rfl fl_De_22 (by assumption) U4 ?_
            refine g_aload_n (q := 64) hx d_De_open_63 rfl rfl ?_
            refine g_getl (q := 67) hx d_De_open_64 rfl fl_De_46 (by assumption) W4 ?_
            refine g_lcmp (q := 68) hx d_De_open_67 rfl ?_
            refine g_if_ge (q := 71) (t := 75) hx d_De_open_68 rfl rfl (zc_ge (by omega) (by omega)) (fun h68 => ?_) (fun h68 => ?_)
            · refine g_iconst (q := 76) (v := nI 0) hx d_De_open_75 rfl (by decide) ?_
              exact g_zret hx d_De_open_76 rfl (by decide) hQ ⟨Nat.le_refl _, Nat.le_refl _⟩ ⟨_, rfl, rfl, rfl, T4, ⟨U4.trans (congrArg lN hv4), W4, G4, D4⟩, Or.inr ⟨rfl, by rw [← hv4]; omega⟩⟩
            · refine g_iconst (q := 72) (v := nI 1) hx d_De_open_71 rfl (by decide) ?_
              refine g_goto (q := 76) hx d_De_open_72 rfl ?_
              exact g_zret hx d_De_open_76 rfl (by decide) hQ ⟨Nat.le_refl _, Nat.le_refl _⟩ ⟨_, rfl, rfl, rfl, T4, ⟨U4.trans (congrArg lN hv4), W4, G4, D4⟩, Or.inl ⟨rfl, by rw [← hv4]; omega⟩⟩
          · exact absurd (by omega) h46
