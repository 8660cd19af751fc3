/-! reading, in the reference -/
def bGI : Nat → Bool := fun i => i == 20
def bGL : Nat → Bool := fun i => i == 15 || i == 19
def bG19 : Nat → Bool := fun i => i == 19
def bG15 : Nat → Bool := fun i => i == 15
def pD (M : zM) (m b3 : Nat) (s : mDe) : Prop := zl M m 19 = lN s.1 ∧ zl M m 15 = lN s.2.1 ∧ (∀ p, p < 59 → zi M (m + 9) p = nI (s.2.2.1 p)) ∧ zi M m 20 = nI (b3 + s.2.2.2)
def qY (M : zM) (m b3 rl : Nat) (by_ : Nat → Nat) : Prop := zi M m 21 = nI (b3 + rl) ∧ (∀ j, j < rl → zi M (m + 8) (b3 + j) = nI (by_ j)) ∧ (∀ j, rl ≤ j → by_ j = 0) ∧ (∀ j, by_ j < 256) ∧ b3 + rl ≤ 6000
theorem qY.kp {A I L : Nat → Bool} {m : Nat} {M M' : zM} (h : kF A I L m M M') (h1 : A 8 = false) (h2 : I 21 = false) {b3 rl : Nat} {by_ : Nat → Nat} (q : qY M m b3 rl by_) : qY M' m b3 rl by_ :=
  ⟨(h.i 21 h2).trans q.1, fun j hj => (h.a 8 (by decide) h1 _).trans (q.2.1 j hj), q.2.2⟩
theorem pD.kp {A I L : Nat → Bool} {m : Nat} {M M' : zM} (h : kF A I L m M M') (h1 : A 9 = false) (h2 : I 20 = false) (h3 : L 15 = false) (h4 : L 19 = false) {b3 : Nat} {s : mDe} (q : pD M m b3 s) : pD M' m b3 s :=
  ⟨(h.l 19 h4).trans q.1, (h.l 15 h3).trans q.2.1, fun p hp => (h.a 9 (by decide) h1 p).trans (q.2.2.1 p hp), (h.i 20 h2).trans q.2.2.2⟩
/-- a reader's state from which a bit can be read -/
def mGo (s : mDe) : Prop := s.1 < 2 ^ 50 ∧ 16777216 ≤ s.2.1 ∧ s.2.1 < 4294967296 ∧ mLi s.2.2.1 ∧ s.2.2.2 < 200000
def mGd (k : Nat) (s : mDe) : Prop := mDi s ∧ s.2.2.2 + k < 100000
theorem mGd.go {k : Nat} {s : mDe} (h : mGd k s) : mGo s := by
  obtain ⟨⟨h1, h2, h3, h4⟩, h5⟩ := h
  exact ⟨by omega, h2, h3, h4, by omega⟩
theorem mGd.get {k : Nat} {by_ : Nat → Nat} (hb : ∀ j, by_ j < 256) {s : mDe} (h : mGd (k + 1) s) {p : Nat} (hp : p ≤ 58) : mGd k (mGet by_ s p) := by
  have h1 := mGet_nx by_ s p
  have h2 := h.2
  exact ⟨mGet_ok hb h.1 hp, by omega⟩
theorem mGd.mono {j k : Nat} {s : mDe} (h : mGd k s) (hj : j ≤ k) : mGd j s := by
  have h2 := h.2
  exact ⟨h.1, by omega⟩
/-- a value too far: after i bits from a fresh start -/
def mBd (i : Nat) (s : mDe) : Prop := mBad s ∧ 4 ≤ s.2.2.2 ∧ 2 ^ 31 * 256 ^ (s.2.2.2 - 4) ≤ s.2.1 * 2 ^ i ∧ s.1 < s.2.1 + 256 ^ (s.2.2.2 - 4) ∧ ∀ p, i ≤ p → p < 9 → s.2.2.1 p = 1024
theorem mBd.go {i : Nat} {s : mDe} (hi : i ≤ 18) (h : mBd i s) : mGo s := by
  obtain ⟨⟨h1, h2, h3, h4⟩, h5, h6, h7, -⟩ := h
  have e1 : s.2.1 * 2 ^ i ≤ 4294967296 * 2 ^ 18 := Nat.mul_le_mul (by omega) (Nat.pow_le_pow_right (by omega) hi)
  have e2 : 256 ^ (s.2.2.2 - 4) ≤ 2 ^ 19 := by
    have := Nat.le_trans h6 e1
    omega
  refine ⟨by omega, h2, h3, h4, ?_⟩
  rcases Nat.lt_or_ge (s.2.2.2 - 4) 3 with c | c
  · omega
  · have := Nat.pow_le_pow_right (n := 256) (by omega) c
    omega
set_option maxRecDepth 100000 in
theorem mBd.get {i : Nat} {by_ : Nat → Nat} (hb : ∀ j, by_ j < 256) {s : mDe} (h : mBd i s) {p : Nat} (hp : p = i ∧ i < 9 ∨ p = 58) : mBd (i + 1) (mGet by_ s p) := by
  have hp58 : p ≤ 58 := by omega
  have hbad := mBad_get (by_ := by_) h.1 hp58
  have hbit := mBad_bit h.1 hp58
  obtain ⟨⟨h1, h2, h3, h4⟩, h5, h6, h7, h8⟩ := h
  have hl : s.2.2.1 p = 1024 := by
    rcases hp with ⟨rfl, h9⟩ | rfl
    · exact h8 p (Nat.le_refl _) h9
    · exact h4.2
  have hB : s.2.1 / 2048 * 1024 ≤ s.2.1 := by omega
  have hr : mRg1 s.2.1 (s.2.2.1 p) (mBit s p) = s.2.1 - s.2.1 / 2048 * 1024 := by
    rw [hbit, hl]; unfold mRg1 mB; rw [if_neg (by omega)]
  have hv : mV1 s p = s.1 - s.2.1 / 2048 * 1024 := by
    unfold mV1
    rw [hl]
    unfold mB
    rw [if_neg (by omega)]
  have hpot : 2 ^ 31 * 256 ^ (s.2.2.2 - 4) ≤ (s.2.1 - s.2.1 / 2048 * 1024) * 2 ^ (i + 1) := by
    refine Nat.le_trans h6 ?_
    rw [Nat.pow_succ, Nat.mul_comm (2 ^ i) 2, ← Nat.mul_assoc]
    exact Nat.mul_le_mul_right _ (by omega)
  have hlk : ∀ q, i + 1 ≤ q → q < 9 → mLn s.2.2.1 p (mBit s p) q = 1024 := by
    intro q hq1 hq2
    unfold mLn
    split
    · exact h8 q (by omega) hq2
    · rw [mUp_n (by omega)]; exact h8 q (by omega) hq2
  have hby := hb s.2.2.2
  refine ⟨hbad, ?_⟩
  unfold mGet
  rw [hr, hv]
  generalize s.2.1 / 2048 * 1024 = B at *
  split
  · refine ⟨by dsimp only; omega, ?_, ?_, hlk⟩
    · dsimp only
      rw [show s.2.2.2 + 1 - 4 = (s.2.2.2 - 4) + 1 by omega, show (256 : Nat) ^ (s.2.2.2 - 4 + 1) = 256 ^ (s.2.2.2 - 4) * 256 from Nat.pow_succ .., ← Nat.mul_assoc, Nat.mul_right_comm (s.2.1 - B) 256]
      exact Nat.mul_le_mul_right _ hpot
    · dsimp only
      rw [show s.2.2.2 + 1 - 4 = (s.2.2.2 - 4) + 1 by omega, show (256 : Nat) ^ (s.2.2.2 - 4 + 1) = 256 ^ (s.2.2.2 - 4) * 256 from Nat.pow_succ ..]
      clear hpot h6
      generalize 256 ^ (s.2.2.2 - 4) = Z at *
      omega
  · refine ⟨h5, hpot, ?_, hlk⟩
    dsimp only
    clear hpot h6
    generalize 256 ^ (s.2.2.2 - 4) = Z at *
    omega
set_option maxHeartbeats 4000000 in
set_option maxRecDepth 100000 in
theorem c_Mo_nextByte (l : Launch) (E : zE) (Γ : zG) (n : Nat) (M : zM) (m : Nat) (b3 rl j : Nat) (by_ : Nat → Nat) (hq : qX Γ M.2.2 m) (hY : qY M m b3 rl by_) (hj : zi M m 20 = nI (b3 + j)) (hj2 : j < 200000) :
    zCt l E Y_Mo_nextByte 0 (0, 0) [.ref m] Γ n M (zPi Γ n (fun v M' => v = nI (by_ j) ∧ M' = zsi M m 20 (nI (b3 + j + 1)))) := by
  refine zCt.of [(0, .ref m)] (by decide) (Nat.le_of_ble_eq_true rfl) rfl (fun f hfl hx hQ => ?_)
  obtain ⟨P, hP⟩ : ∃ P, M.2.2 = P := ⟨_, rfl⟩
  rw [hP] at hq
  have hm0 := hq.m0
  have hb6 := hY.2.2.2.2
  refine g_aload_n (q := 1) hx d_Mo_nextByte_0 rfl rfl ?_
  refine g_geti (q := 4) hx d_Mo_nextByte_1 rfl fl_Mo_146 hq.g0 hj ?_
  refine g_aload_n (q := 5) hx d_Mo_nextByte_4 rfl rfl ?_
  refine g_geti (q := 8) hx d_Mo_nextByte_5 rfl fl_Mo_149 hq.g0 hY.1 ?_
  refine g_icmp_ge (q := 11) (t := 23) hx d_Mo_nextByte_8 rfl rfl (nI_leI (by omega) (by omega)) (fun h8 => ?_) (fun h8 => ?_)
  · refine g_iconst (q := 24) (v := nI 0) hx d_Mo_nextByte_23 rfl (by decide) ?_
    refine g_istore_n (q := 25) (lc' := [(1, _), (0, _)]) hx d_Mo_nextByte_24 rfl (by decide) rfl ?_
    refine g_aload_n (q := 26) hx d_Mo_nextByte_25 rfl rfl ?_
    refine g_dup (q := 27) hx d_Mo_nextByte_26 rfl rfl ?_
    refine g_geti (q := 30) hx d_Mo_nextByte_27 rfl fl_Mo_146 hq.g0 hj ?_
    refine g_iconst (q := 31) (v := nI 1) hx d_Mo_nextByte_30 rfl (by decide) ?_
    refine g_iadd (q := 32) hx d_Mo_nextByte_31 rfl (nI_add _ _) ?_
    refine g_puti (q := 35) hx d_Mo_nextByte_32 rfl fl_Mo_146 nf_7_20 hq.g0 ?_
    refine g_iload_n (q := 36) hx d_Mo_nextByte_35 rfl rfl ?_
    exact g_iret hx d_Mo_nextByte_36 rfl hQ ⟨Nat.le_refl _, Nat.le_refl _⟩ ⟨_, rfl, rfl, rfl, (congrArg nI (hY.2.2.1 j (by omega))).symm, rfl⟩
  · refine g_aload_n (q := 12) hx d_Mo_nextByte_11 rfl rfl ?_
    refine g_geta (q := 15) hx d_Mo_nextByte_12 rfl fl_Mo_31 hq.g0 (hq.p8 hP) (by first | exact Nat.succ_ne_zero _ | omega) ?_
    refine g_aload_n (q := 16) hx d_Mo_nextByte_15 rfl rfl ?_
    refine g_geti (q := 19) hx d_Mo_nextByte_16 rfl fl_Mo_146 hq.g0 hj ?_
    refine g_iald (q := 20) hx d_Mo_nextByte_19 rfl hq.g8 rfl (by omega) (by decide) (hY.2.1 j (by omega)) ?_
    refine g_goto (q := 24) hx d_Mo_nextByte_20 rfl ?_
    refine g_istore_n (q := 25) (lc' := [(1, _), (0, _)]) hx d_Mo_nextByte_24 rfl (by decide) rfl ?_
    refine g_aload_n (q := 26) hx d_Mo_nextByte_25 rfl rfl ?_
    refine g_dup (q := 27) hx d_Mo_nextByte_26 rfl rfl ?_
    refine g_geti (q := 30) hx d_Mo_nextByte_27 rfl fl_Mo_146 hq.g0 hj ?_
    refine g_iconst (q := 31) (v := nI 1) hx d_Mo_nextByte_30 rfl (by decide) ?_
    refine g_iadd (q := 32) hx d_Mo_nextByte_31 rfl (nI_add _ _) ?_
    refine g_puti (q := 35) hx d_Mo_nextByte_32 rfl fl_Mo_146 nf_7_20 hq.g0 ?_
    refine g_iload_n (q := 36) hx d_Mo_nextByte_35 rfl rfl ?_
    exact g_iret hx d_Mo_nextByte_36 rfl hQ ⟨Nat.le_refl _, Nat.le_refl _⟩ ⟨_, rfl, rfl, rfl, rfl, rfl⟩
set_option maxHeartbeats 4000000 in
set_option maxRecDepth 100000 in
theorem c_Mo_get (l : Launch) (E : zE) (Γ : zG) (n : Nat) (M : zM) (m : Nat) (p : Nat) (b3 rl : Nat) (by_ : Nat → Nat) (s : mDe) (hq : qX Γ M.2.2 m) (hY : qY M m b3 rl by_) (hD : pD M m b3 s) (hgo : mGo s) (hp : p ≤ 58) :
    zCt l E Y_Mo_get 1 (0, 0) [.ref m, .int (nI p)] Γ n M (zPi Γ n (fun v M' => v = nI (mBit s p) ∧ kF bLA bGI bGL m M M' ∧ pD M' m b3 (mGet by_ s p))) := by
  refine zCt.of [(0, .ref m), (1, .int (nI p))] (by decide) (Nat.le_of_ble_eq_true rfl) rfl (fun f hfl hx hQ => ?_)
  have hq0 := hq
  have hP : M.2.2 = M.2.2 := rfl
  have hm0 := hq.m0
  obtain ⟨g1, g2, g3, g4, g5⟩ := hgo
  have hlk := mLi_any g4 hp
  have hrg := mRg1_in (b := mBit s p) g2 g3 hlk
  have hBle := mB_le (rg := s.2.1) hlk.2
  have hv1 : mV1 s p ≤ s.1 := by
    unfold mV1; split <;> omega
  have tail2 : ∀ M1, kF bLA bGI bGL m M M1 → zl M1 m 19 = lN (mV1 s p) → zl M1 m 15 = lN (mRg1 s.2.1 (s.2.2.1 p) (mBit s p)) → (∀ q, q < 59 → zi M1 (m + 9) q = nI (mLn s.2.2.1 p (mBit s p) q)) → zi M1 m 20 = nI (b3 + s.2.2.2) → zGo f E Γ n (0, 0) M1 81 [(4, .int (nI (mBit s p))), (2, .long (lN (mB s.2.1 (s.2.2.1 p)))), (0, .ref m), (1, .int (nI p))] [] := by
    intro M1 k1 t2 t3 t4 t5
    replace hP := k1.r
    refine g_aload_n (q := 82) hx d_Mo_get_81 rfl rfl ?_
    refine g_getl (q := 85) hx d_Mo_get_82 rfl fl_Mo_88 hq.g0 t3 ?_
    refine g_ldc2 (q := 88) (v := lN 16777216) hx d_Mo_get_85 rfl ct_Mo_104 ?_
    refine g_lcmp (q := 89) hx d_Mo_get_88 rfl ?_
    refine g_if_ge (q := 92) (t := 125) hx d_Mo_get_89 rfl rfl (zc_ge (by omega) (by omega)) (fun hc0 => ?_) (fun hc0 => ?_)
    · have hc : ¬ mRg1 s.2.1 (s.2.2.1 p) (mBit s p) < 16777216 := by omega
      refine g_iload (q := 127) hx d_Mo_get_125 rfl rfl ?_
      exact g_iret hx d_Mo_get_127 rfl hQ ⟨Nat.le_refl _, Nat.le_refl _⟩ ⟨_, rfl, rfl, rfl, rfl, k1, by
              unfold mGet
              rw [if_neg hc]
              exact ⟨t2, t3, t4, t5⟩⟩
    · have hc : mRg1 s.2.1 (s.2.2.1 p) (mBit s p) < 16777216 := by omega
      refine g_aload_n (q := 93) hx d_Mo_get_92 rfl rfl ?_
      refine g_aload_n (q := 94) hx d_Mo_get_93 rfl rfl ?_
      refine g_getl (q := 97) hx d_Mo_get_94 rfl fl_Mo_152 hq.g0 t2 ?_
      refine g_ldc2 (q := 100) (v := lN 256) hx d_Mo_get_97 rfl ct_Mo_106 ?_
      refine g_lmul (q := 101) hx d_Mo_get_100 rfl (lN_mul _ _) ?_
      refine g_aload_n (q := 102) hx d_Mo_get_101 rfl rfl ?_
      refine g_ci (q := 105) (zrunV hx d_Mo_get_102 lk_Mo_155 rfl rfl hq.g0 rfl rfl (Nat.le_of_ble_eq_true rfl) (by decide) (by omega) (by omega) (c_Mo_nextByte _ E Γ n _ m b3 rl s.2.2.2 by_ (by rw [k1.r]; exact hq0) (hY.kp k1 rfl rfl) t5 g5)) rfl (fun r102 M102 p102 => ?_)
      obtain ⟨rfl, rfl⟩ := p102
      refine g_i2l (q := 106) hx d_Mo_get_105 rfl (nI_l (by have := hY.2.2.2.1 s.2.2.2; omega)) ?_
      refine g_ladd (q := 107) hx d_Mo_get_106 rfl (lN_add _ _) ?_
      refine g_putl (q := 110) hx d_Mo_get_107 rfl fl_Mo_152 nf_7_19 hq.g0 ?_
      refine g_aload_n (q := 111) hx d_Mo_get_110 rfl rfl ?_
      refine g_aload_n (q := 112) hx d_Mo_get_111 rfl rfl ?_
      refine g_getl (q := 115) hx d_Mo_get_112 rfl fl_Mo_88 hq.g0 ((zl_k (by decide)).trans t3) ?_
      refine g_ldc2 (q := 118) (v := lN 256) hx d_Mo_get_115 rfl ct_Mo_106 ?_
      refine g_lmul (q := 119) hx d_Mo_get_118 rfl (lN_mul _ _) ?_
      refine g_putl (q := 122) hx d_Mo_get_119 rfl fl_Mo_88 nf_7_15 hq.g0 ?_
      refine g_goto (q := 81) hx d_Mo_get_122 rfl ?_
      refine g_aload_n (q := 82) hx d_Mo_get_81 rfl rfl ?_
      refine g_getl (q := 85) hx d_Mo_get_82 rfl fl_Mo_88 hq.g0 (zl_s _ _ _ _) ?_
      refine g_ldc2 (q := 88) (v := lN 16777216) hx d_Mo_get_85 rfl ct_Mo_104 ?_
      refine g_lcmp (q := 89) hx d_Mo_get_88 rfl ?_
      refine g_if_ge (q := 92) (t := 125) hx d_Mo_get_89 rfl rfl (zc_ge (by omega) (by omega)) (fun h89 => ?_) (fun h89 => ?_)
      · refine g_iload (q := 127) hx d_Mo_get_125 rfl rfl ?_
        exact g_iret hx d_Mo_get_127 rfl hQ ⟨Nat.le_refl _, Nat.le_refl _⟩ ⟨_, rfl, rfl, rfl, rfl, ((k1.si rfl).sl rfl).sl rfl, by
                unfold mGet
                rw [if_pos hc]
                exact ⟨(zl_k (by decide)).trans (zl_s _ _ _ _), zl_s _ _ _ _, fun q hq => (zi_a (by omega)).trans (t4 q hq), zi_s _ _ _ _⟩⟩
      · exact absurd (by omega) h89
  have tail1 : ∀ M1, kF bLA bGI bGL m M M1 → zl M1 m 19 = lN (mV1 s p) → zl M1 m 15 = lN (mRg1 s.2.1 (s.2.2.1 p) (mBit s p)) → (∀ q, q < 59 → zi M1 (m + 9) q = nI (s.2.2.1 q)) → zi M1 m 20 = nI (b3 + s.2.2.2) → zGo f E Γ n (0, 0) M1 74 [(4, .int (nI (mBit s p))), (2, .long (lN (mB s.2.1 (s.2.2.1 p)))), (0, .ref m), (1, .int (nI p))] [] := by
    intro M1 k1 t2 t3 t4 t5
    replace hP := k1.r
    refine g_aload_n (q := 75) hx d_Mo_get_74 rfl rfl ?_
    refine g_iload_n (q := 76) hx d_Mo_get_75 rfl rfl ?_
    refine g_iload (q := 78) hx d_Mo_get_76 rfl rfl ?_
    refine g_cv (q := 81) (zrunV hx d_Mo_get_78 lk_Mo_96 rfl rfl hq.g0 rfl rfl (Nat.le_of_ble_eq_true rfl) (by decide) (by omega) (by omega) (c_Mo_learn _ E Γ n _ m p (mBit s p) s.2.2.1 (by rw [k1.r]; exact hq0) t4 g4 hp (mBit_lt _ _))) rfl (fun M78 p78 => ?_)
    obtain ⟨u1, u2⟩ := p78
    exact tail2 M78 (k1.tr (u1.mono (zSb_rf _) (bN_ _) (bN_ _))) ((u1.l 19 rfl).trans t2) ((u1.l 15 rfl).trans t3) u2 ((u1.i 20 rfl).trans t5)
  refine g_aload_n (q := 1) hx d_Mo_get_0 rfl rfl ?_
  refine g_getl (q := 4) hx d_Mo_get_1 rfl fl_Mo_88 hq.g0 hD.2.1 ?_
  refine g_ldc2 (q := 7) (v := lN 2048) hx d_Mo_get_4 rfl ct_Mo_94 ?_
  refine g_ldiv (q := 8) hx d_Mo_get_7 rfl (zl_ne0 (by omega) (by omega)) (pk_lDiv (by omega) (by omega) (by omega)) ?_
  refine g_aload_n (q := 9) hx d_Mo_get_8 rfl rfl ?_
  refine g_geta (q := 12) hx d_Mo_get_9 rfl fl_Mo_34 hq.g0 (hq.p9 hP) (by first | exact Nat.succ_ne_zero _ | omega) ?_
  refine g_iload_n (q := 13) hx d_Mo_get_12 rfl rfl ?_
  refine g_iald (q := 14) hx d_Mo_get_13 rfl hq.g9 rfl (by omega) (by decide) (hD.2.2.1 p (by omega)) ?_
  refine g_i2l (q := 15) hx d_Mo_get_14 rfl (nI_l (by omega)) ?_
  refine g_lmul (q := 16) hx d_Mo_get_15 rfl (show lN _ * lN _ = lN (mB s.2.1 (s.2.2.1 p)) from lN_mul _ _) ?_
  refine g_lstore_n (q := 17) (lc' := [(2, _), (0, _), (1, _)]) hx d_Mo_get_16 rfl (by decide) rfl ?_
  refine g_aload_n (q := 18) hx d_Mo_get_17 rfl rfl ?_
  refine g_getl (q := 21) hx d_Mo_get_18 rfl fl_Mo_152 hq.g0 hD.1 ?_
  refine g_lload_n (q := 22) hx d_Mo_get_21 rfl rfl ?_
  refine g_lcmp (q := 23) hx d_Mo_get_22 rfl ?_
  refine g_if_ge (q := 26) (t := 30) hx d_Mo_get_23 rfl rfl (zc_ge (by omega) (by omega)) (fun h23 => ?_) (fun h23 => ?_)
  · refine g_iconst (q := 31) (v := nI 1) hx d_Mo_get_30 rfl (by decide) ?_
    refine g_istore (q := 33) (lc' := [(4, _), (2, _), (0, _), (1, _)]) hx d_Mo_get_31 rfl (by decide) rfl ?_
    refine g_aload_n (q := 34) hx d_Mo_get_33 rfl rfl ?_
    refine g_iload (q := 36) hx d_Mo_get_34 rfl rfl ?_
    refine g_if_ne (q := 39) (t := 46) hx d_Mo_get_36 rfl rfl (zb_ne0 (by omega)) (fun h36 => ?_) (fun h36 => ?_)
    · refine g_aload_n (q := 47) hx d_Mo_get_46 rfl rfl ?_
      refine g_getl (q := 50) hx d_Mo_get_47 rfl fl_Mo_152 hq.g0 hD.1 ?_
      refine g_lload_n (q := 51) hx d_Mo_get_50 rfl rfl ?_
      refine g_lsub (q := 52) hx d_Mo_get_51 rfl (lN_sub (by omega)) ?_
      refine g_putl (q := 55) hx d_Mo_get_52 rfl fl_Mo_152 nf_7_19 hq.g0 ?_
      refine g_aload_n (q := 56) hx d_Mo_get_55 rfl rfl ?_
      refine g_iload (q := 58) hx d_Mo_get_56 rfl rfl ?_
      refine g_if_ne (q := 61) (t := 65) hx d_Mo_get_58 rfl rfl (zb_ne0 (by omega)) (fun h58 => ?_) (fun h58 => ?_)
      · refine g_aload_n (q := 66) hx d_Mo_get_65 rfl rfl ?_
        refine g_getl (q := 69) hx d_Mo_get_66 rfl fl_Mo_88 hq.g0 ((zl_k (by decide)).trans hD.2.1) ?_
        refine g_lload_n (q := 70) hx d_Mo_get_69 rfl rfl ?_
        refine g_lsub (q := 71) hx d_Mo_get_70 rfl (lN_sub (by omega)) ?_
        refine g_putl (q := 74) hx d_Mo_get_71 rfl fl_Mo_88 nf_7_15 hq.g0 ?_
        have hb1 : mBit s p = 1 := if_neg (by omega)
        rw [show nI 1 = nI (mBit s p) from congrArg nI hb1.symm]
        exact tail1 _ ((kF.rf.sl rfl).sl rfl) ((zl_k (by decide)).trans ((zl_s _ _ _ _).trans (congrArg lN (if_neg (by omega)).symm))) ((zl_s _ _ _ _).trans (congrArg lN (by rw [hb1]; exact (if_neg (by omega)).symm))) hD.2.2.1 hD.2.2.2
      · exact absurd h58 (by omega)
    · exact absurd h36 (by omega)
  · refine g_iconst (q := 27) (v := nI 0) hx d_Mo_get_26 rfl (by decide) ?_
    refine g_goto (q := 31) hx d_Mo_get_27 rfl ?_
    refine g_istore (q := 33) (lc' := [(4, _), (2, _), (0, _), (1, _)]) hx d_Mo_get_31 rfl (by decide) rfl ?_
    refine g_aload_n (q := 34) hx d_Mo_get_33 rfl rfl ?_
    refine g_iload (q := 36) hx d_Mo_get_34 rfl rfl ?_
    refine g_if_ne (q := 39) (t := 46) hx d_Mo_get_36 rfl rfl (zb_ne0 (by omega)) (fun h36 => ?_) (fun h36 => ?_)
    · exact absurd h36 (by omega)
    · refine g_aload_n (q := 40) hx d_Mo_get_39 rfl rfl ?_
      refine g_getl (q := 43) hx d_Mo_get_40 rfl fl_Mo_152 hq.g0 hD.1 ?_
      refine g_goto (q := 52) hx d_Mo_get_43 rfl ?_
      refine g_putl (q := 55) hx d_Mo_get_52 rfl fl_Mo_152 nf_7_19 hq.g0 ?_
      refine g_aload_n (q := 56) hx d_Mo_get_55 rfl rfl ?_
      refine g_iload (q := 58) hx d_Mo_get_56 rfl rfl ?_
      refine g_if_ne (q := 61) (t := 65) hx d_Mo_get_58 rfl rfl (zb_ne0 (by omega)) (fun h58 => ?_) (fun h58 => ?_)
      · exact absurd h58 (by omega)
      · refine g_lload_n (q := 62) hx d_Mo_get_61 rfl rfl ?_
        refine g_goto (q := 71) hx d_Mo_get_62 rfl ?_
        refine g_putl (q := 74) hx d_Mo_get_71 rfl fl_Mo_88 nf_7_15 hq.g0 ?_
        have hb0 : mBit s p = 0 := if_pos (by omega)
        rw [show nI 0 = nI (mBit s p) from congrArg nI hb0.symm]
        exact tail1 _ ((kF.rf.sl rfl).sl rfl) ((zl_k (by decide)).trans ((zl_s _ _ _ _).trans (congrArg lN (if_pos (by omega)).symm))) ((zl_s _ _ _ _).trans (congrArg lN (by rw [hb0]; exact (if_pos rfl).symm))) hD.2.2.1 hD.2.2.2
set_option maxHeartbeats 4000000 in
set_option maxRecDepth 100000 in
theorem c_Mo_getNumber (l : Launch) (E : zE) (Γ : zG) (n : Nat) (M : zM) (m : Nat) (g : Nat) (C : Nat → mDe → Prop) (b3 rl : Nat) (by_ : Nat → Nat) (s : mDe) (hq : qX Γ M.2.2 m) (hY : qY M m b3 rl by_) (hD : pD M m b3 s) (hg : g < 3) (h0 : C 0 s) (h1 : ∀ i s, i < 9 → C i s → mGo s ∧ C (i + 1) (mGet by_ s (9 * g + i))) (h2 : ∀ i s, i < 18 → C i s → mGo s ∧ C (i + 1) (mGet by_ s 58)) :
    zCt l E Y_Mo_getNumber 2 (0, 0) [.ref m, .int (nI g)] Γ n M (zPi Γ n (fun v M' => v = nI (mGn by_ g s).1 ∧ kF bLA bGI bGL m M M' ∧ pD M' m b3 (mGn by_ g s).2 ∧ ∃ j, j ≤ 18 ∧ C j (mGn by_ g s).2)) := by
  refine zCt.of [(0, .ref m), (1, .int (nI g))] (by decide) (Nat.le_of_ble_eq_true rfl) rfl (fun f hfl hx hQ => ?_)
  have hq0 := hq
  have hP : M.2.2 = M.2.2 := rfl
  have hm0 := hq.m0
  have part2 : ∀ (k : Nat) (M1 : zM) (s1 : mDe) (j : Nat), k ≤ 9 → kF bLA bGI bGL m M M1 → pD M1 m b3 s1 → j ≤ 9 → k ≤ 9 → C j s1 → (k, s1) = mGk by_ g 9 0 s → zGo f E Γ n (0, 0) M1 28 [(2, .int (nI k)), (0, .ref m), (1, .int (nI g))] [] := by
    intro k M1 s1 j hk k1 d1 hj _ c1 hG
    replace hP := k1.r
    have hG1 : k = (mGk by_ g 9 0 s).1 := congrArg Prod.fst hG
    have hG2 : s1 = (mGk by_ g 9 0 s).2 := congrArg Prod.snd hG
    have loop2 : ∀ (i : Nat) (M1 : zM), ∀ (a : Nat) (s1 : mDe) (j : Nat), i ≤ k → 1 ≤ a → a < 2 ^ (i + 1) → kF bLA bGI bGL m M M1 → pD M1 m b3 s1 → j ≤ 9 + i → j ≤ 18 → C j s1 → mGv by_ (k - i) a s1 = mGv by_ (mGk by_ g 9 0 s).1 1 (mGk by_ g 9 0 s).2 → zGo f E Γ n (0, 0) M1 33 [(4, .int (nI i)), (3, .int (nI a)), (2, .int (nI k)), (0, .ref m), (1, .int (nI g))] [] := by
      refine z_lp (fun i => k - i) _ ?_
      intro i M1 ih a s1 j hi ha ha2 k1 d1 hj9 hj c1 hF
      replace hP := k1.r
      have hp10 : 2 ^ (i + 1) ≤ 2 ^ 10 := Nat.pow_le_pow_right (by omega) (by omega)
      refine g_iload (q := 35) hx d_Mo_getNumber_33 rfl rfl ?_
      refine g_iload_n (q := 36) hx d_Mo_getNumber_35 rfl rfl ?_
      refine g_icmp_ge (q := 39) (t := 56) hx d_Mo_getNumber_36 rfl rfl (nI_leI (by omega) (by omega)) (fun h36 => ?_) (fun h36 => ?_)
      · obtain rfl : i = k := (by omega)
        rw [Nat.sub_self] at hF
        refine g_iload_n (q := 57) hx d_Mo_getNumber_56 rfl rfl ?_
        refine g_iconst (q := 58) (v := nI 1) hx d_Mo_getNumber_57 rfl (by decide) ?_
        refine g_isub (q := 59) hx d_Mo_getNumber_58 rfl (pk_sub ha) ?_
        have hF1 : a = (mGv by_ (mGk by_ g 9 0 s).1 1 (mGk by_ g 9 0 s).2).1 := congrArg Prod.fst hF
        have hF2 : s1 = (mGv by_ (mGk by_ g 9 0 s).1 1 (mGk by_ g 9 0 s).2).2 := congrArg Prod.snd hF
        exact g_iret hx d_Mo_getNumber_59 rfl hQ ⟨Nat.le_refl _, Nat.le_refl _⟩ ⟨_, rfl, rfl, rfl, by rw [hF1]; rfl, k1, by show pD M1 m b3 (mGv by_ (mGk by_ g 9 0 s).1 1 (mGk by_ g 9 0 s).2).2; rw [← hF2]; exact d1, j, hj, by show C j (mGv by_ (mGk by_ g 9 0 s).1 1 (mGk by_ g 9 0 s).2).2; rw [← hF2]; exact c1⟩
      · refine g_iconst (q := 40) (v := nI 2) hx d_Mo_getNumber_39 rfl (by decide) ?_
        refine g_iload_n (q := 41) hx d_Mo_getNumber_40 rfl rfl ?_
        refine g_imul (q := 42) hx d_Mo_getNumber_41 rfl (pk_mul _ _) ?_
        refine g_aload_n (q := 43) hx d_Mo_getNumber_42 rfl rfl ?_
        refine g_bipush (q := 45) (v := nI 58) hx d_Mo_getNumber_43 rfl (by decide) ?_
        refine g_ci (q := 48) (zrunV hx d_Mo_getNumber_45 lk_Mo_159 rfl rfl hq.g0 rfl rfl (Nat.le_of_ble_eq_true rfl) (by decide) (by omega) (by omega) (c_Mo_get _ E Γ n _ m 58 b3 rl by_ s1 (by rw [k1.r]; exact hq0) (hY.kp k1 rfl rfl) d1 (h2 j s1 (by omega) c1).1 (by omega))) rfl (fun r45 M45 p45 => ?_)
        obtain ⟨rfl, u1, u2⟩ := p45
        have hbl := mBit_lt s1 58
        refine g_iadd (q := 49) hx d_Mo_getNumber_48 rfl (nI_add _ _) ?_
        refine g_istore_n (q := 50) (lc' := [(3, _), (4, _), (2, _), (0, _), (1, _)]) hx d_Mo_getNumber_49 rfl (by decide) rfl ?_
        refine g_iinc (q := 53) (lc' := [(4, _), (3, _), (2, _), (0, _), (1, _)]) hx d_Mo_getNumber_50 rfl rfl (z_inc _) (by decide) rfl ?_
        refine g_goto (q := 33) hx d_Mo_getNumber_53 rfl ?_
        refine z_perm (lc' := [(4, .int (nI (i + 1))), (3, .int (nI (2 * a + mBit s1 58))), (2, .int (nI k)), (0, .ref m), (1, .int (nI g))]) (fun q hq => by simp only [List.mem_cons, List.not_mem_nil, or_false] at hq ⊢; rcases hq with h | h | h | h | h <;> simp [h]) ?_
        refine ih (i + 1) M45 (by omega) (2 * a + mBit s1 58) _ (j + 1) (by omega) (by omega) ?_ (k1.tr u1) u2 (by omega) (by omega) (h2 j s1 (by omega) c1).2 ?_
        · have : a < 2 ^ (i + 1) := ha2
          rw [Nat.pow_succ] at this ⊢
          rw [Nat.pow_succ]
          omega
        · rw [← hF, show k - i = (k - (i + 1)) + 1 by omega]; rfl
    refine g_iconst (q := 29) (v := nI 1) hx d_Mo_getNumber_28 rfl (by decide) ?_
    refine g_istore_n (q := 30) (lc' := [(3, _), (2, _), (0, _), (1, _)]) hx d_Mo_getNumber_29 rfl (by decide) rfl ?_
    refine g_iconst (q := 31) (v := nI 0) hx d_Mo_getNumber_30 rfl (by decide) ?_
    refine g_istore (q := 33) (lc' := [(4, _), (3, _), (2, _), (0, _), (1, _)]) hx d_Mo_getNumber_31 rfl (by decide) rfl ?_
    exact loop2 0 M1 1 s1 j (Nat.zero_le _) (Nat.le_refl _) (by decide) k1 d1 (by omega) (by omega) c1 (by rw [Nat.sub_zero, ← hG1, ← hG2])
  have loop1 : ∀ (i : Nat) (M1 : zM), ∀ s1 : mDe, i ≤ 9 → kF bLA bGI bGL m M M1 → pD M1 m b3 s1 → C i s1 → mGk by_ g (9 - i) i s1 = mGk by_ g 9 0 s → zGo f E Γ n (0, 0) M1 2 [(2, .int (nI i)), (0, .ref m), (1, .int (nI g))] [] := by
    refine z_lp (fun i => 9 - i) _ ?_
    intro i M1 ih s1 hi k1 d1 c1 hF
    replace hP := k1.r
    refine g_iload_n (q := 3) hx d_Mo_getNumber_2 rfl rfl ?_
    refine g_bipush (q := 5) (v := nI 9) hx d_Mo_getNumber_3 rfl (by decide) ?_
    refine g_icmp_ge (q := 8) (t := 28) hx d_Mo_getNumber_5 rfl rfl (nI_leI (by omega) (by omega)) (fun h5 => ?_) (fun h5 => ?_)
    · obtain rfl : i = 9 := (by omega)
      exact part2 9 M1 s1 9 (Nat.le_refl _) k1 d1 (by omega) (by omega) c1 (by rw [← hF]; rfl)
    · refine g_aload_n (q := 9) hx d_Mo_getNumber_8 rfl rfl ?_
      refine g_bipush (q := 11) (v := nI 9) hx d_Mo_getNumber_9 rfl (by decide) ?_
      refine g_iload_n (q := 12) hx d_Mo_getNumber_11 rfl rfl ?_
      refine g_imul (q := 13) hx d_Mo_getNumber_12 rfl (pk_mul _ _) ?_
      refine g_iload_n (q := 14) hx d_Mo_getNumber_13 rfl rfl ?_
      refine g_iadd (q := 15) hx d_Mo_getNumber_14 rfl (nI_add _ _) ?_
      refine g_ci (q := 18) (zrunV hx d_Mo_getNumber_15 lk_Mo_159 rfl rfl hq.g0 rfl rfl (Nat.le_of_ble_eq_true rfl) (by decide) (by omega) (by omega) (c_Mo_get _ E Γ n _ m (9 * g + i) b3 rl by_ s1 (by rw [k1.r]; exact hq0) (hY.kp k1 rfl rfl) d1 (h1 i s1 (by omega) c1).1 (by omega))) rfl (fun r15 M15 p15 => ?_)
      obtain ⟨rfl, u1, u2⟩ := p15
      have hbl := mBit_lt s1 (9 * g + i)
      refine g_iconst (q := 19) (v := nI 1) hx d_Mo_getNumber_18 rfl (by decide) ?_
      refine g_icmp_ne (q := 22) (t := 28) hx d_Mo_getNumber_19 rfl rfl (not_congr (nI_eq (by omega) (by omega))) (fun h19 => ?_) (fun h19 => ?_)
      · refine part2 i M15 _ (i + 1) (by omega) (k1.tr u1) u2 (by omega) (by omega) (h1 i s1 (by omega) c1).2 ?_
        rw [← hF, show 9 - i = (9 - (i + 1)) + 1 by omega]
        simp only [mGk]
        rw [if_neg h19]
      · refine g_iinc (q := 25) (lc' := [(2, _), (0, _), (1, _)]) hx d_Mo_getNumber_22 rfl rfl (z_inc _) (by decide) rfl ?_
        refine g_goto (q := 2) hx d_Mo_getNumber_25 rfl ?_
        refine ih (i + 1) M15 (by omega) _ (by omega) (k1.tr u1) u2 (h1 i s1 (by omega) c1).2 ?_
        rw [← hF, show 9 - i = (9 - (i + 1)) + 1 by omega]
        simp only [mGk]
        rw [if_pos (by omega)]
  refine g_iconst (q := 1) (v := nI 0) hx d_Mo_getNumber_0 rfl (by decide) ?_
  refine g_istore_n (q := 2) (lc' := [(2, _), (0, _), (1, _)]) hx d_Mo_getNumber_1 rfl (by decide) rfl ?_
  exact loop1 0 M s (Nat.zero_le _) kF.rf hD h0 rfl
theorem c_Mo_getN (l : Launch) (E : zE) (Γ : zG) (n : Nat) (M : zM) (m : Nat) (g K : Nat) (b3 rl : Nat) (by_ : Nat → Nat) (s : mDe) (hq : qX Γ M.2.2 m) (hY : qY M m b3 rl by_) (hD : pD M m b3 s) (hg : g < 3) (h0 : mGd (K + 18) s) :
    zCt l E Y_Mo_getNumber 2 (0, 0) [.ref m, .int (nI g)] Γ n M (zPi Γ n (fun v M' => v = nI (mGn by_ g s).1 ∧ kF bLA bGI bGL m M M' ∧ pD M' m b3 (mGn by_ g s).2 ∧ mGd K (mGn by_ g s).2)) := by
  refine (c_Mo_getNumber l E Γ n M m g (fun i s => mGd (K + 18 - i) s) b3 rl by_ s hq hY hD hg h0 (fun i s hi h => ⟨h.go, ?_⟩) (fun i s hi h => ⟨h.go, ?_⟩)).mono ?_
  · exact mGd.get hY.2.2.2.1 (h.mono (by omega)) (by omega)
  · exact mGd.get hY.2.2.2.1 (h.mono (by omega)) (by omega)
  · rintro v Γ' n' M' ⟨r, e1, e2, e3, e4, e5, e6, j, e7, e8⟩
    exact ⟨r, e1, e2, e3, e4, e5, e6, e8.mono (by omega)⟩
theorem c_Mo_getB (l : Launch) (E : zE) (Γ : zG) (n : Nat) (M : zM) (m : Nat) (b3 rl : Nat) (by_ : Nat → Nat) (s : mDe) (hq : qX Γ M.2.2 m) (hY : qY M m b3 rl by_) (hD : pD M m b3 s) (h0 : mBd 0 s) :
    zCt l E Y_Mo_getNumber 2 (0, 0) [.ref m, .int (nI 0)] Γ n M (zPi Γ n (fun v M' => v = nI 1022 ∧ kF bLA bGI bGL m M M')) := by
  refine (c_Mo_getNumber l E Γ n M m 0 (fun i s => i ≤ 18 ∧ mBd i s) b3 rl by_ s hq hY hD (by omega) ⟨by omega, h0⟩ (fun i s hi h => ⟨h.2.go h.1, by omega, ?_⟩) (fun i s hi h => ⟨h.2.go h.1, by omega, ?_⟩)).mono ?_
  · exact mBd.get hY.2.2.2.1 h.2 (Or.inl ⟨by omega, hi⟩)
  · exact mBd.get hY.2.2.2.1 h.2 (Or.inr rfl)
  · rintro v Γ' n' M' ⟨r, e1, e2, e3, e4, e5, -⟩
    exact ⟨r, e1, e2, e3, e4.trans (congrArg nI (mBad_gn h0.1)), e5⟩
set_option maxHeartbeats 4000000 in
set_option maxRecDepth 100000 in
theorem c_Mo_getKind (l : Launch) (E : zE) (Γ : zG) (n : Nat) (M : zM) (m : Nat) (b K : Nat) (b3 rl : Nat) (by_ : Nat → Nat) (s : mDe) (hq : qX Γ M.2.2 m) (hY : qY M m b3 rl by_) (hD : pD M m b3 s) (hb : b < 5) (h0 : mGd (K + 4) s) :
    zCt l E Y_Mo_getKind 2 (0, 0) [.ref m, .int (nI b)] Γ n M (zPi Γ n (fun v M' => v = nI (mGkd by_ b s).1 ∧ kF bLA bGI bGL m M M' ∧ pD M' m b3 (mGkd by_ b s).2 ∧ mGd K (mGkd by_ b s).2)) := by
  refine zCt.of [(0, .ref m), (1, .int (nI b))] (by decide) (Nat.le_of_ble_eq_true rfl) rfl (fun f hfl hx hQ => ?_)
  have hq0 := hq
  have hP : M.2.2 = M.2.2 := rfl
  have hm0 := hq.m0
  have k1 : kF bLA bGI bGL m M M := kF.rf
  have d1 := hD
  have e0 : mBit s (27 + 4 * b) = 0 → mGkd by_ b s = (0, (mGet by_ s (27 + 4 * b))) := fun q => by unfold mGkd; rw [if_pos q]
  have e1 : ¬ mBit s (27 + 4 * b) = 0 → mBit (mGet by_ s (27 + 4 * b)) (27 + 4 * b + 1) = 0 → mGkd by_ b s = (4, (mGet by_ (mGet by_ s (27 + 4 * b)) (27 + 4 * b + 1))) := fun q q1 => by unfold mGkd; rw [if_neg q, if_pos q1]
  have e2 : ¬ mBit s (27 + 4 * b) = 0 → ¬ mBit (mGet by_ s (27 + 4 * b)) (27 + 4 * b + 1) = 0 → mBit (mGet by_ (mGet by_ s (27 + 4 * b)) (27 + 4 * b + 1)) (27 + 4 * b + 2) = 0 → mGkd by_ b s = (1, (mGet by_ (mGet by_ (mGet by_ s (27 + 4 * b)) (27 + 4 * b + 1)) (27 + 4 * b + 2))) := fun q q1 q2 => by unfold mGkd; rw [if_neg q, if_neg q1, if_pos q2]
  have e3 : ¬ mBit s (27 + 4 * b) = 0 → ¬ mBit (mGet by_ s (27 + 4 * b)) (27 + 4 * b + 1) = 0 → ¬ mBit (mGet by_ (mGet by_ s (27 + 4 * b)) (27 + 4 * b + 1)) (27 + 4 * b + 2) = 0 → mGkd by_ b s = (if mBit (mGet by_ (mGet by_ (mGet by_ s (27 + 4 * b)) (27 + 4 * b + 1)) (27 + 4 * b + 2)) (27 + 4 * b + 3) = 0 then 2 else 3, mGet by_ (mGet by_ (mGet by_ (mGet by_ s (27 + 4 * b)) (27 + 4 * b + 1)) (27 + 4 * b + 2)) (27 + 4 * b + 3)) := fun q q1 q2 => by unfold mGkd; rw [if_neg q, if_neg q1, if_neg q2]
  have hgk : ∃ z, z = mGkd by_ b s := ⟨_, rfl⟩
  obtain ⟨z, hz⟩ := hgk
  rw [← hz] at hQ e0 e1 e2 e3
  clear hz
  refine g_bipush (q := 2) (v := nI 27) hx d_Mo_getKind_0 rfl (by decide) ?_
  refine g_iconst (q := 3) (v := nI 4) hx d_Mo_getKind_2 rfl (by decide) ?_
  refine g_iload_n (q := 4) hx d_Mo_getKind_3 rfl rfl ?_
  refine g_imul (q := 5) hx d_Mo_getKind_4 rfl (pk_mul _ _) ?_
  refine g_iadd (q := 6) hx d_Mo_getKind_5 rfl (nI_add _ _) ?_
  refine g_istore_n (q := 7) (lc' := [(2, _), (0, _), (1, _)]) hx d_Mo_getKind_6 rfl (by decide) rfl ?_
  refine g_aload_n (q := 8) hx d_Mo_getKind_7 rfl rfl ?_
  refine g_iload_n (q := 9) hx d_Mo_getKind_8 rfl rfl ?_
  refine g_ci (q := 12) (zrunV hx d_Mo_getKind_9 lk_Mo_159 rfl rfl hq.g0 rfl rfl (Nat.le_of_ble_eq_true rfl) (by decide) (by omega) (by omega) (c_Mo_get _ E Γ n _ m (27 + 4 * b) b3 rl by_ s (by rw [k1.r]; exact hq0) (hY.kp k1 rfl rfl) d1 h0.go (by omega))) rfl (fun r9 M9 p9 => ?_)
  obtain ⟨rfl, u1, u2⟩ := p9
  replace k1 := k1.tr u1
  replace d1 := u2
  have hl9 := mBit_lt s (27 + 4 * b)
  have c9 := mGd.get hY.2.2.2.1 (p := 27 + 4 * b) h0 (by omega)
  clear u1 u2
  generalize mBit s (27 + 4 * b) = w0 at *
  generalize mGet by_ s (27 + 4 * b) = s9 at *
  refine g_if_ne (q := 15) (t := 17) hx d_Mo_getKind_12 rfl rfl (zb_ne0 (by omega)) (fun b9 => ?_) (fun b9 => ?_)
  · refine g_aload_n (q := 18) hx d_Mo_getKind_17 rfl rfl ?_
    refine g_iload_n (q := 19) hx d_Mo_getKind_18 rfl rfl ?_
    refine g_iconst (q := 20) (v := nI 1) hx d_Mo_getKind_19 rfl (by decide) ?_
    refine g_iadd (q := 21) hx d_Mo_getKind_20 rfl (nI_add _ _) ?_
    refine g_ci (q := 24) (zrunV hx d_Mo_getKind_21 lk_Mo_159 rfl rfl hq.g0 rfl rfl (Nat.le_of_ble_eq_true rfl) (by decide) (by omega) (by omega) (c_Mo_get _ E Γ n _ m (27 + 4 * b + 1) b3 rl by_ s9 (by rw [k1.r]; exact hq0) (hY.kp k1 rfl rfl) d1 c9.go (by omega))) rfl (fun r21 M21 p21 => ?_)
    obtain ⟨rfl, u1, u2⟩ := p21
    replace k1 := k1.tr u1
    replace d1 := u2
    have hl21 := mBit_lt s9 (27 + 4 * b + 1)
    have c21 := mGd.get hY.2.2.2.1 (p := 27 + 4 * b + 1) c9 (by omega)
    clear u1 u2
    generalize mBit s9 (27 + 4 * b + 1) = w1 at *
    generalize mGet by_ s9 (27 + 4 * b + 1) = s21 at *
    refine g_if_ne (q := 27) (t := 29) hx d_Mo_getKind_24 rfl rfl (zb_ne0 (by omega)) (fun b21 => ?_) (fun b21 => ?_)
    · refine g_aload_n (q := 30) hx d_Mo_getKind_29 rfl rfl ?_
      refine g_iload_n (q := 31) hx d_Mo_getKind_30 rfl rfl ?_
      refine g_iconst (q := 32) (v := nI 2) hx d_Mo_getKind_31 rfl (by decide) ?_
      refine g_iadd (q := 33) hx d_Mo_getKind_32 rfl (nI_add _ _) ?_
      refine g_ci (q := 36) (zrunV hx d_Mo_getKind_33 lk_Mo_159 rfl rfl hq.g0 rfl rfl (Nat.le_of_ble_eq_true rfl) (by decide) (by omega) (by omega) (c_Mo_get _ E Γ n _ m (27 + 4 * b + 2) b3 rl by_ s21 (by rw [k1.r]; exact hq0) (hY.kp k1 rfl rfl) d1 c21.go (by omega))) rfl (fun r33 M33 p33 => ?_)
      obtain ⟨rfl, u1, u2⟩ := p33
      replace k1 := k1.tr u1
      replace d1 := u2
      have hl33 := mBit_lt s21 (27 + 4 * b + 2)
      have c33 := mGd.get hY.2.2.2.1 (p := 27 + 4 * b + 2) c21 (by omega)
      clear u1 u2
      generalize mBit s21 (27 + 4 * b + 2) = w2 at *
      generalize mGet by_ s21 (27 + 4 * b + 2) = s33 at *
      refine g_if_ne (q := 39) (t := 41) hx d_Mo_getKind_36 rfl rfl (zb_ne0 (by omega)) (fun b33 => ?_) (fun b33 => ?_)
      · refine g_aload_n (q := 42) hx d_Mo_getKind_41 rfl rfl ?_
        refine g_iload_n (q := 43) hx d_Mo_getKind_42 rfl rfl ?_
        refine g_iconst (q := 44) (v := nI 3) hx d_Mo_getKind_43 rfl (by decide) ?_
        refine g_iadd (q := 45) hx d_Mo_getKind_44 rfl (nI_add _ _) ?_
        refine g_ci (q := 48) (zrunV hx d_Mo_getKind_45 lk_Mo_159 rfl rfl hq.g0 rfl rfl (Nat.le_of_ble_eq_true rfl) (by decide) (by omega) (by omega) (c_Mo_get _ E Γ n _ m (27 + 4 * b + 3) b3 rl by_ s33 (by rw [k1.r]; exact hq0) (hY.kp k1 rfl rfl) d1 c33.go (by omega))) rfl (fun r45 M45 p45 => ?_)
        obtain ⟨rfl, u1, u2⟩ := p45
        replace k1 := k1.tr u1
        replace d1 := u2
        have hl45 := mBit_lt s33 (27 + 4 * b + 3)
        have c45 := mGd.get hY.2.2.2.1 (p := 27 + 4 * b + 3) c33 (by omega)
        clear u1 u2
        generalize mBit s33 (27 + 4 * b + 3) = w3 at *
        generalize mGet by_ s33 (27 + 4 * b + 3) = s45 at *
        refine g_if_ne (q := 51) (t := 55) hx d_Mo_getKind_48 rfl rfl (zb_ne0 (by omega)) (fun b45 => ?_) (fun b45 => ?_)
        · refine g_iconst (q := 56) (v := nI 3) hx d_Mo_getKind_55 rfl (by decide) ?_
          exact g_iret hx d_Mo_getKind_56 rfl hQ ⟨Nat.le_refl _, Nat.le_refl _⟩ ⟨_, rfl, rfl, rfl, by rw [e3 b9 b21 b33]; exact (congrArg nI (if_neg b45)).symm, k1, by rw [e3 b9 b21 b33]; exact d1, by rw [e3 b9 b21 b33]; exact c45⟩
        · refine g_iconst (q := 52) (v := nI 2) hx d_Mo_getKind_51 rfl (by decide) ?_
          refine g_goto (q := 56) hx d_Mo_getKind_52 rfl ?_
          exact g_iret hx d_Mo_getKind_56 rfl hQ ⟨Nat.le_refl _, Nat.le_refl _⟩ ⟨_, rfl, rfl, rfl, by rw [e3 b9 b21 b33]; exact (congrArg nI (if_pos (by omega))).symm, k1, by rw [e3 b9 b21 b33]; exact d1, by rw [e3 b9 b21 b33]; exact c45⟩
      · refine g_iconst (q := 40) (v := nI 1) hx d_Mo_getKind_39 rfl (by decide) ?_
        exact g_iret hx d_Mo_getKind_40 rfl hQ ⟨Nat.le_refl _, Nat.le_refl _⟩ ⟨_, rfl, rfl, rfl, by rw [e2 b9 b21 (by omega)], k1, by rw [e2 b9 b21 (by omega)]; exact d1, by rw [e2 b9 b21 (by omega)]; exact c33.mono (by omega)⟩
    · refine g_iconst (q := 28) (v := nI 4) hx d_Mo_getKind_27 rfl (by decide) ?_
      exact g_iret hx d_Mo_getKind_28 rfl hQ ⟨Nat.le_refl _, Nat.le_refl _⟩ ⟨_, rfl, rfl, rfl, by rw [e1 b9 (by omega)], k1, by rw [e1 b9 (by omega)]; exact d1, by rw [e1 b9 (by omega)]; exact c21.mono (by omega)⟩
  · refine g_iconst (q := 16) (v := nI 0) hx d_Mo_getKind_15 rfl (by decide) ?_
    exact g_iret hx d_Mo_getKind_16 rfl hQ ⟨Nat.le_refl _, Nat.le_refl _⟩ ⟨_, rfl, rfl, rfl, by rw [e0 (by omega)], k1, by rw [e0 (by omega)]; exact d1, by rw [e0 (by omega)]; exact c9.mono (by omega)⟩
