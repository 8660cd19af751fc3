def bLA : Nat → Bool := fun i => i == 9
def bRA : Nat → Bool := fun i => i == 10
/-- the writer's state in the reference -/
def qE (M : zM) (m : Nat) (s : mEn) : Prop := zl M m 14 = lN s.1 ∧ zl M m 15 = lN s.2.1 ∧ (∀ p, p < 59 → zi M (m + 9) p = nI (s.2.2.1 p)) ∧ zi M m 17 = nI s.2.2.2.1 ∧ ∀ j, j < s.2.2.2.1 → zi M (m + 10) j = nI (s.2.2.2.2 j)
theorem bL_C : zSb bLA bCA := fun c h => by simp [bLA, bCA] at h ⊢; omega
theorem bR_C : zSb bRA bCA := fun c h => by simp [bRA, bCA] at h ⊢; omega
theorem bN_ (B : Nat → Bool) : zSb bN B := fun c h => rfl
set_option maxHeartbeats 4000000 in
set_option maxRecDepth 100000 in
theorem c_Mo_learn (l : Launch) (E : zE) (Γ : zG) (n : Nat) (M : zM) (m : Nat) (p b : Nat) (lk : Nat → Nat) (hq : qX Γ M.2.2 m) (e : ∀ q, q < 59 → zi M (m + 9) q = nI (lk q)) (hl : mLi lk) (hp : p ≤ 58) (hb : b < 2) :
    zCt l E Y_Mo_learn 0 (0, 0) [.ref m, .int (nI p), .int (nI b)] Γ n M (zPv Γ n (fun M' => kF bLA bN bN m M M' ∧ ∀ q, q < 59 → zi M' (m + 9) q = nI (mLn lk p b q))) := by
  refine zCt.of [(0, .ref m), (1, .int (nI p)), (2, .int (nI b))] (by decide) (Nat.le_of_ble_eq_true rfl) rfl (fun f hfl hx hQ => ?_)
  obtain ⟨P, hP⟩ : ∃ P, M.2.2 = P := ⟨_, rfl⟩
  rw [hP] at hq
  have hm0 := hq.m0
  have hlk := mLi_any hl hp
  refine g_iload_n (q := 1) hx d_Mo_learn_0 rfl rfl ?_
  refine g_bipush (q := 3) (v := nI 58) hx d_Mo_learn_1 rfl (by decide) ?_
  refine g_icmp_eq (q := 6) (t := 55) hx d_Mo_learn_3 rfl rfl (nI_eq (by omega) (by omega)) (fun h3 => ?_) (fun h3 => ?_)
  · exact g_vret hx d_Mo_learn_55 rfl hQ ⟨Nat.le_refl _, Nat.le_refl _⟩ ⟨rfl, rfl, rfl, kF.rf, fun q hq => by unfold mLn; rw [if_pos h3]; exact e q hq⟩
  · refine g_aload_n (q := 7) hx d_Mo_learn_6 rfl rfl ?_
    refine g_geta (q := 10) hx d_Mo_learn_7 rfl fl_Mo_34 hq.g0 (hq.p9 hP) (by first | exact Nat.succ_ne_zero _ | omega) ?_
    refine g_iload_n (q := 11) hx d_Mo_learn_10 rfl rfl ?_
    refine g_iload_n (q := 12) hx d_Mo_learn_11 rfl rfl ?_
    refine g_if_ne (q := 15) (t := 38) hx d_Mo_learn_12 rfl rfl (zb_ne0 (by omega)) (fun h12 => ?_) (fun h12 => ?_)
    · refine g_aload_n (q := 39) hx d_Mo_learn_38 rfl rfl ?_
      refine g_geta (q := 42) hx d_Mo_learn_39 rfl fl_Mo_34 hq.g0 (hq.p9 hP) (by first | exact Nat.succ_ne_zero _ | omega) ?_
      refine g_iload_n (q := 43) hx d_Mo_learn_42 rfl rfl ?_
      refine g_iald (q := 44) hx d_Mo_learn_43 rfl hq.g9 rfl (by omega) (by decide) (e p (by omega)) ?_
      refine g_aload_n (q := 45) hx d_Mo_learn_44 rfl rfl ?_
      refine g_geta (q := 48) hx d_Mo_learn_45 rfl fl_Mo_34 hq.g0 (hq.p9 hP) (by first | exact Nat.succ_ne_zero _ | omega) ?_
      refine g_iload_n (q := 49) hx d_Mo_learn_48 rfl rfl ?_
      refine g_iald (q := 50) hx d_Mo_learn_49 rfl hq.g9 rfl (by omega) (by decide) (e p (by omega)) ?_
      refine g_bipush (q := 52) (v := nI 16) hx d_Mo_learn_50 rfl (by decide) ?_
      refine g_idiv (q := 53) hx d_Mo_learn_52 rfl (nI_ne0 (by omega) (by omega)) (pk_div (by omega) (by omega) (by omega)) ?_
      refine g_isub (q := 54) hx d_Mo_learn_53 rfl (pk_sub (by omega)) ?_
      refine g_iast (q := 55) hx d_Mo_learn_54 rfl hq.g9 rfl (by omega) (by decide) ?_
      exact g_vret hx d_Mo_learn_55 rfl hQ ⟨Nat.le_refl _, Nat.le_refl _⟩ ⟨rfl, rfl, rfl, kF.rf.sa rfl (by decide) (by decide), fun q hq => by
            unfold mLn mLk
            rw [if_neg h3]
            by_cases eq : q = p
            · subst eq; rw [zi_s, mUp_s, if_neg h12]
            · rw [zi_k eq, mUp_n eq]; exact e q hq⟩
    · refine g_aload_n (q := 16) hx d_Mo_learn_15 rfl rfl ?_
      refine g_geta (q := 19) hx d_Mo_learn_16 rfl fl_Mo_34 hq.g0 (hq.p9 hP) (by first | exact Nat.succ_ne_zero _ | omega) ?_
      refine g_iload_n (q := 20) hx d_Mo_learn_19 rfl rfl ?_
      refine g_iald (q := 21) hx d_Mo_learn_20 rfl hq.g9 rfl (by omega) (by decide) (e p (by omega)) ?_
      refine g_sipush (q := 24) (v := nI 2048) hx d_Mo_learn_21 rfl (by decide) ?_
      refine g_aload_n (q := 25) hx d_Mo_learn_24 rfl rfl ?_
      refine g_geta (q := 28) hx d_Mo_learn_25 rfl fl_Mo_34 hq.g0 (hq.p9 hP) (by first | exact Nat.succ_ne_zero _ | omega) ?_
      refine g_iload_n (q := 29) hx d_Mo_learn_28 rfl rfl ?_
      refine g_iald (q := 30) hx d_Mo_learn_29 rfl hq.g9 rfl (by omega) (by decide) (e p (by omega)) ?_
      refine g_isub (q := 31) hx d_Mo_learn_30 rfl (pk_sub (by omega)) ?_
      refine g_bipush (q := 33) (v := nI 16) hx d_Mo_learn_31 rfl (by decide) ?_
      refine g_idiv (q := 34) hx d_Mo_learn_33 rfl (nI_ne0 (by omega) (by omega)) (pk_div (by omega) (by omega) (by omega)) ?_
      refine g_iadd (q := 35) hx d_Mo_learn_34 rfl (nI_add _ _) ?_
      refine g_goto (q := 54) hx d_Mo_learn_35 rfl ?_
      refine g_iast (q := 55) hx d_Mo_learn_54 rfl hq.g9 rfl (by omega) (by decide) ?_
      exact g_vret hx d_Mo_learn_55 rfl hQ ⟨Nat.le_refl _, Nat.le_refl _⟩ ⟨rfl, rfl, rfl, kF.rf.sa rfl (by decide) (by decide), fun q hq => by
            unfold mLn mLk
            rw [if_neg h3]
            by_cases eq : q = p
            · subst eq; rw [zi_s, mUp_s, if_pos (by omega)]
            · rw [zi_k eq, mUp_n eq]; exact e q hq⟩
set_option maxHeartbeats 4000000 in
set_option maxRecDepth 100000 in
theorem c_Mo_carry (l : Launch) (E : zE) (Γ : zG) (n : Nat) (M : zM) (m : Nat) (r : Nat) (row : Nat → Nat) (hq : qX Γ M.2.2 m) (hr : zi M m 17 = nI r) (hrow : ∀ j, j < r → zi M (m + 10) j = nI (row j)) (h1 : 1 ≤ r) (h6 : r ≤ 600) (hb : ∀ j, j < r → row j < 256) (hrv : mRv row r + 1 < 256 ^ r) :
    zCt l E Y_Mo_carry 0 (0, 0) [.ref m] Γ n M (zPv Γ n (fun M' => kF bRA bN bN m M M' ∧ ∀ j, j < r → zi M' (m + 10) j = nI (mCar r row j))) := by
  refine zCt.of [(0, .ref m)] (by decide) (Nat.le_of_ble_eq_true rfl) rfl (fun f hfl hx hQ => ?_)
  obtain ⟨P, hP⟩ : ∃ P, M.2.2 = P := ⟨_, rfl⟩
  rw [hP] at hq
  have hm0 := hq.m0
  have loop : ∀ (k : Nat) (M1 : zM), ∀ row1 : Nat → Nat, k < r → kF bRA bN bN m M M1 → (∀ j, j < r → zi M1 (m + 10) j = nI (row1 j)) → (∀ j, j < r → row1 j < 256) → mRv row1 (k + 1) + 1 < 256 ^ (k + 1) → mCar (k + 1) row1 = mCar r row → zGo f E Γ n (0, 0) M1 9 [(2, .int (nI 1)), (1, .int (nI k)), (0, .ref m)] [] := by
    refine z_lp (fun k => k) _ ?_
    intro k M1 ih row1 hk t1 t2 t5 t3 t4
    have hk256 := t5 k hk
    replace hP : M1.2.2 = P := t1.r.trans hP
    refine g_iload_n (q := 10) hx d_Mo_carry_9 rfl rfl ?_
    refine g_if_eq (q := 13) (t := 64) hx d_Mo_carry_10 rfl rfl (zb_eq0 (by omega)) (fun h10 => ?_) (fun h10 => ?_)
    · exact absurd h10 (by omega)
    · refine g_aload_n (q := 14) hx d_Mo_carry_13 rfl rfl ?_
      refine g_geta (q := 17) hx d_Mo_carry_14 rfl fl_Mo_37 hq.g0 (hq.p10 hP) (by first | exact Nat.succ_ne_zero _ | omega) ?_
      refine g_iload_n (q := 18) hx d_Mo_carry_17 rfl rfl ?_
      refine g_aload_n (q := 19) hx d_Mo_carry_18 rfl rfl ?_
      refine g_geta (q := 22) hx d_Mo_carry_19 rfl fl_Mo_37 hq.g0 (hq.p10 hP) (by first | exact Nat.succ_ne_zero _ | omega) ?_
      refine g_iload_n (q := 23) hx d_Mo_carry_22 rfl rfl ?_
      refine g_iald (q := 24) hx d_Mo_carry_23 rfl hq.g10 rfl (by omega) (by decide) (t2 k (by omega)) ?_
      refine g_sipush (q := 27) (v := nI 255) hx d_Mo_carry_24 rfl (by decide) ?_
      refine g_icmp_ne (q := 30) (t := 34) hx d_Mo_carry_27 rfl rfl (not_congr (nI_eq (by omega) (by omega))) (fun h27 => ?_) (fun h27 => ?_)
      · refine g_aload_n (q := 35) hx d_Mo_carry_34 rfl rfl ?_
        refine g_geta (q := 38) hx d_Mo_carry_35 rfl fl_Mo_37 hq.g0 (hq.p10 hP) (by first | exact Nat.succ_ne_zero _ | omega) ?_
        refine g_iload_n (q := 39) hx d_Mo_carry_38 rfl rfl ?_
        refine g_iald (q := 40) hx d_Mo_carry_39 rfl hq.g10 rfl (by omega) (by decide) (t2 k (by omega)) ?_
        refine g_iconst (q := 41) (v := nI 1) hx d_Mo_carry_40 rfl (by decide) ?_
        refine g_iadd (q := 42) hx d_Mo_carry_41 rfl (nI_add _ _) ?_
        refine g_iast (q := 43) hx d_Mo_carry_42 rfl hq.g10 rfl (by omega) (by decide) ?_
        refine g_aload_n (q := 44) hx d_Mo_carry_43 rfl rfl ?_
        refine g_geta (q := 47) hx d_Mo_carry_44 rfl fl_Mo_37 hq.g0 (hq.p10 hP) (by first | exact Nat.succ_ne_zero _ | omega) ?_
        refine g_iload_n (q := 48) hx d_Mo_carry_47 rfl rfl ?_
        refine g_iald (q := 49) hx d_Mo_carry_48 rfl hq.g10 rfl (by omega) (by decide) (zi_s _ _ _ _) ?_
        refine g_if_ne (q := 52) (t := 56) hx d_Mo_carry_49 rfl rfl (zb_ne0 (by omega)) (fun h49 => ?_) (fun h49 => ?_)
        · refine g_iconst (q := 57) (v := nI 0) hx d_Mo_carry_56 rfl (by decide) ?_
          refine g_istore_n (q := 58) (lc' := [(2, _), (1, _), (0, _)]) hx d_Mo_carry_57 rfl (by decide) rfl ?_
          refine g_iinc (q := 61) (lc' := [(1, _), (2, _), (0, _)]) hx d_Mo_carry_58 rfl rfl rfl (by decide) rfl ?_
          refine g_goto (q := 9) hx d_Mo_carry_61 rfl ?_
          refine g_iload_n (q := 10) hx d_Mo_carry_9 rfl rfl ?_
          refine g_if_eq (q := 13) (t := 64) hx d_Mo_carry_10 rfl rfl (zb_eq0 (by omega)) (fun h10 => ?_) (fun h10 => ?_)
          · exact g_vret hx d_Mo_carry_64 rfl hQ ⟨Nat.le_refl _, Nat.le_refl _⟩ ⟨rfl, rfl, rfl, t1.sa rfl (by decide) (by decide), fun j hj => by
                  rw [← t4]
                  simp only [mCar]
                  rw [if_neg h27]
                  by_cases ej : j = k
                  · subst ej; rw [zi_s, mUp_s]
                  · rw [zi_k ej, mUp_n ej]; exact t2 j hj⟩
          · exact absurd h10 (by omega)
        · exact absurd (by omega) h49
      · refine g_iconst (q := 31) (v := nI 0) hx d_Mo_carry_30 rfl (by decide) ?_
        refine g_goto (q := 42) hx d_Mo_carry_31 rfl ?_
        refine g_iast (q := 43) hx d_Mo_carry_42 rfl hq.g10 rfl (by omega) (by decide) ?_
        refine g_aload_n (q := 44) hx d_Mo_carry_43 rfl rfl ?_
        refine g_geta (q := 47) hx d_Mo_carry_44 rfl fl_Mo_37 hq.g0 (hq.p10 hP) (by first | exact Nat.succ_ne_zero _ | omega) ?_
        refine g_iload_n (q := 48) hx d_Mo_carry_47 rfl rfl ?_
        refine g_iald (q := 49) hx d_Mo_carry_48 rfl hq.g10 rfl (by omega) (by decide) (zi_s _ _ _ _) ?_
        refine g_if_ne (q := 52) (t := 56) hx d_Mo_carry_49 rfl rfl (zb_ne0 (by omega)) (fun h49 => ?_) (fun h49 => ?_)
        · exact absurd h49 (by omega)
        · refine g_iconst (q := 53) (v := nI 1) hx d_Mo_carry_52 rfl (by decide) ?_
          refine g_goto (q := 57) hx d_Mo_carry_53 rfl ?_
          refine g_istore_n (q := 58) (lc' := [(2, _), (1, _), (0, _)]) hx d_Mo_carry_57 rfl (by decide) rfl ?_
          have e255 : row1 k = 255 := (by omega)
          have hk1 : 1 ≤ k := by
            rcases Nat.eq_zero_or_pos k with h | h
            · subst h; simp [mRv, e255] at t3
            · exact h
          have hrv : mRv row1 k + 1 < 256 ^ k := by
            have h9 := t3
            simp only [mRv, Nat.pow_succ, e255] at h9
            omega
          refine g_iinc (q := 61) (lc' := [(1, _), (2, _), (0, _)]) hx d_Mo_carry_58 rfl rfl (z_dec (by omega)) (by decide) rfl ?_
          refine g_goto (q := 9) hx d_Mo_carry_61 rfl ?_
          refine z_sw ?_
          refine ih (k - 1) _ (by omega) (mUp row1 k 0) (by omega) ((t1.sa rfl (by decide) (by decide))) (fun j hj => ?_) (fun j hj => ?_) ?_ ?_
          · by_cases ej : j = k
            · subst ej; rw [zi_s, mUp_s]
            · rw [zi_k ej, mUp_n ej]; exact t2 j hj
          · unfold mUp; split
            · omega
            · exact t5 j hj
          · rw [Nat.sub_add_cancel hk1, mRv_congr (g := row1) (fun j hj => mUp_n (by omega))]
            exact hrv
          · rw [Nat.sub_add_cancel hk1, ← t4]
            simp [mCar, e255]
  refine g_aload_n (q := 1) hx d_Mo_carry_0 rfl rfl ?_
  refine g_geti (q := 4) hx d_Mo_carry_1 rfl fl_Mo_91 hq.g0 hr ?_
  refine g_iconst (q := 5) (v := nI 1) hx d_Mo_carry_4 rfl (by decide) ?_
  refine g_isub (q := 6) hx d_Mo_carry_5 rfl (pk_sub (by omega)) ?_
  refine g_istore_n (q := 7) (lc' := [(1, _), (0, _)]) hx d_Mo_carry_6 rfl (by decide) rfl ?_
  refine g_iconst (q := 8) (v := nI 1) hx d_Mo_carry_7 rfl (by decide) ?_
  refine g_istore_n (q := 9) (lc' := [(2, _), (1, _), (0, _)]) hx d_Mo_carry_8 rfl (by decide) rfl ?_
  exact loop (r - 1) M row (by omega) kF.rf hrow hb (by rw [Nat.sub_add_cancel h1]; exact hrv) (by rw [Nat.sub_add_cancel h1])
set_option maxHeartbeats 4000000 in
set_option maxRecDepth 100000 in
theorem c_Mo_put (l : Launch) (E : zE) (Γ : zG) (n : Nat) (M : zM) (m : Nat) (p b : Nat) (s : mEn) (hq : qX Γ M.2.2 m) (he : qE M m s) (hi : mEi s) (hr : s.2.2.2.1 ≤ 590) (hp : p ≤ 58) (hb : b < 2) :
    zCt l E Y_Mo_put 1 (0, 0) [.ref m, .int (nI p), .int (nI b)] Γ n M (zPv Γ n (fun M' => kF bCA bCI bCL m M M' ∧ qE M' m (mPut s (p, b)))) := by
  refine zCt.of [(0, .ref m), (1, .int (nI p)), (2, .int (nI b))] (by decide) (Nat.le_of_ble_eq_true rfl) rfl (fun f hfl hx hQ => ?_)
  obtain ⟨P, hP⟩ : ∃ P, M.2.2 = P := ⟨_, rfl⟩
  rw [hP] at hq
  have hm0 := hq.m0
  obtain ⟨e1, e2, e3, e4, e5⟩ := he
  have hio := mPut_ok hi hp hb
  obtain ⟨h1, h2, h3, h4, h5, h6⟩ := hi
  have hlk := mLi_any h4 hp
  have hrg := mRg1_in (b := b) h2 h3 hlk
  have hBle := mB_le (rg := s.2.1) hlk.2
  have hlo1 := hio.2.2
  have hlow2 : mLow2 s p b < 8589934592 := by
    unfold mLow2; split <;> omega
  have tail2 : ∀ M1, kF bCA bCI bCL m M M1 → zl M1 m 14 = lN (mLow2 s p b) → zl M1 m 15 = lN (mRg1 s.2.1 (s.2.2.1 p) b) → (∀ q, q < 59 → zi M1 (m + 9) q = nI (mLn s.2.2.1 p b q)) → zi M1 m 17 = nI s.2.2.2.1 → (∀ j, j < s.2.2.2.1 → zi M1 (m + 10) j = nI (mRow2 s p b j)) → zGo f E Γ n (0, 0) M1 82 [(3, .long (lN (mB s.2.1 (s.2.2.1 p)))), (0, .ref m), (1, .int (nI p)), (2, .int (nI b))] [] := by
    intro M1 t1 t2 t3 t4 t5 t6
    replace hP : M1.2.2 = P := t1.r.trans hP
    refine g_aload_n (q := 83) hx d_Mo_put_82 rfl rfl ?_
    refine g_getl (q := 86) hx d_Mo_put_83 rfl fl_Mo_88 hq.g0 t3 ?_
    refine g_ldc2 (q := 89) (v := lN 16777216) hx d_Mo_put_86 rfl ct_Mo_104 ?_
    refine g_lcmp (q := 90) hx d_Mo_put_89 rfl ?_
    refine g_if_ge (q := 93) (t := 152) hx d_Mo_put_90 rfl rfl (zc_ge (by omega) (by omega)) (fun hc0 => ?_) (fun hc0 => ?_)
    · have hc : ¬ mRg1 s.2.1 (s.2.2.1 p) b < 16777216 := by omega
      exact g_vret hx d_Mo_put_152 rfl hQ ⟨Nat.le_refl _, Nat.le_refl _⟩ ⟨rfl, rfl, rfl, t1, by unfold mPut; rw [if_neg hc]; exact ⟨t2, t3, t4, t5, t6⟩⟩
    · have hc : mRg1 s.2.1 (s.2.2.1 p) b < 16777216 := by omega
      refine g_aload_n (q := 94) hx d_Mo_put_93 rfl rfl ?_
      refine g_geta (q := 97) hx d_Mo_put_94 rfl fl_Mo_37 hq.g0 (hq.p10 hP) (by first | exact Nat.succ_ne_zero _ | omega) ?_
      refine g_aload_n (q := 98) hx d_Mo_put_97 rfl rfl ?_
      refine g_geti (q := 101) hx d_Mo_put_98 rfl fl_Mo_91 hq.g0 t5 ?_
      refine g_aload_n (q := 102) hx d_Mo_put_101 rfl rfl ?_
      refine g_getl (q := 105) hx d_Mo_put_102 rfl fl_Mo_82 hq.g0 t2 ?_
      refine g_ldc2 (q := 108) (v := lN 16777216) hx d_Mo_put_105 rfl ct_Mo_104 ?_
      refine g_ldiv (q := 109) hx d_Mo_put_108 rfl (zl_ne0 (by omega) (by omega)) (pk_lDiv (by omega) (by omega) (by omega)) ?_
      refine g_l2i (q := 110) hx d_Mo_put_109 rfl (lN_i _) ?_
      refine g_iast (q := 111) hx d_Mo_put_110 rfl hq.g10 rfl (by omega) (by decide) ?_
      refine g_aload_n (q := 112) hx d_Mo_put_111 rfl rfl ?_
      refine g_dup (q := 113) hx d_Mo_put_112 rfl rfl ?_
      refine g_geti (q := 116) hx d_Mo_put_113 rfl fl_Mo_91 hq.g0 ((zi_a (by omega)).trans t5) ?_
      refine g_iconst (q := 117) (v := nI 1) hx d_Mo_put_116 rfl (by decide) ?_
      refine g_iadd (q := 118) hx d_Mo_put_117 rfl (nI_add _ _) ?_
      refine g_puti (q := 121) hx d_Mo_put_118 rfl fl_Mo_91 nf_7_17 hq.g0 ?_
      refine g_aload_n (q := 122) hx d_Mo_put_121 rfl rfl ?_
      refine g_aload_n (q := 123) hx d_Mo_put_122 rfl rfl ?_
      refine g_getl (q := 126) hx d_Mo_put_123 rfl fl_Mo_82 hq.g0 t2 ?_
      refine g_ldc2 (q := 129) (v := lN 16777216) hx d_Mo_put_126 rfl ct_Mo_104 ?_
      refine g_lrem (q := 130) hx d_Mo_put_129 rfl (zl_ne0 (by omega) (by omega)) (pk_lRem (by omega) (by omega) (by omega)) ?_
      refine g_ldc2 (q := 133) (v := lN 256) hx d_Mo_put_130 rfl ct_Mo_106 ?_
      refine g_lmul (q := 134) hx d_Mo_put_133 rfl (lN_mul _ _) ?_
      refine g_putl (q := 137) hx d_Mo_put_134 rfl fl_Mo_82 nf_7_14 hq.g0 ?_
      refine g_aload_n (q := 138) hx d_Mo_put_137 rfl rfl ?_
      refine g_aload_n (q := 139) hx d_Mo_put_138 rfl rfl ?_
      refine g_getl (q := 142) hx d_Mo_put_139 rfl fl_Mo_88 hq.g0 ((zl_k (by decide)).trans t3) ?_
      refine g_ldc2 (q := 145) (v := lN 256) hx d_Mo_put_142 rfl ct_Mo_106 ?_
      refine g_lmul (q := 146) hx d_Mo_put_145 rfl (lN_mul _ _) ?_
      refine g_putl (q := 149) hx d_Mo_put_146 rfl fl_Mo_88 nf_7_15 hq.g0 ?_
      refine g_goto (q := 82) hx d_Mo_put_149 rfl ?_
      refine g_aload_n (q := 83) hx d_Mo_put_82 rfl rfl ?_
      refine g_getl (q := 86) hx d_Mo_put_83 rfl fl_Mo_88 hq.g0 (zl_s _ _ _ _) ?_
      refine g_ldc2 (q := 89) (v := lN 16777216) hx d_Mo_put_86 rfl ct_Mo_104 ?_
      refine g_lcmp (q := 90) hx d_Mo_put_89 rfl ?_
      refine g_if_ge (q := 93) (t := 152) hx d_Mo_put_90 rfl rfl (zc_ge (by omega) (by omega)) (fun h90 => ?_) (fun h90 => ?_)
      · exact g_vret hx d_Mo_put_152 rfl hQ ⟨Nat.le_refl _, Nat.le_refl _⟩ ⟨rfl, rfl, rfl, (((t1.sa rfl (by decide) (by decide)).si rfl).sl rfl).sl rfl, by
                unfold mPut
                rw [if_pos hc]
                refine ⟨(zl_k (by decide)).trans (zl_s _ _ _ _), zl_s _ _ _ _, fun q hq => ?_, zi_s _ _ _ _, fun j hj => ?_⟩
                · rw [zi_l, zi_l, zi_a (by omega), zi_a (by omega)]; exact t4 q hq
                · rw [zi_l, zi_l, zi_a (by omega)]
                  by_cases ej : j = s.2.2.2.1
                  · subst ej; rw [zi_s]; exact (congrArg nI (mUp_s _ _ _)).symm
                  · rw [zi_k ej]
                    exact (t6 j (by have : j < s.2.2.2.1 + 1 := hj; omega)).trans (congrArg nI (mUp_n ej).symm)⟩
      · exact absurd (by omega) h90
  have tail1 : ∀ M1, kF bCA bCI bCL m M M1 → zl M1 m 14 = lN (mLow1 s p b) → zl M1 m 15 = lN (mRg1 s.2.1 (s.2.2.1 p) b) → (∀ q, q < 59 → zi M1 (m + 9) q = nI (s.2.2.1 q)) → zi M1 m 17 = nI s.2.2.2.1 → (∀ j, j < s.2.2.2.1 → zi M1 (m + 10) j = nI (s.2.2.2.2 j)) → zGo f E Γ n (0, 0) M1 49 [(3, .long (lN (mB s.2.1 (s.2.2.1 p)))), (0, .ref m), (1, .int (nI p)), (2, .int (nI b))] [] := by
    intro M1 t1 t2 t3 t4 t5 t6
    replace hP : M1.2.2 = P := t1.r.trans hP
    refine g_aload_n (q := 50) hx d_Mo_put_49 rfl rfl ?_
    refine g_iload_n (q := 51) hx d_Mo_put_50 rfl rfl ?_
    refine g_iload_n (q := 52) hx d_Mo_put_51 rfl rfl ?_
    refine g_cv (q := 55) (zrunV hx d_Mo_put_52 lk_Mo_96 rfl rfl hq.g0 rfl rfl (Nat.le_of_ble_eq_true rfl) (by decide) (by omega) (by omega) (c_Mo_learn _ E Γ n _ m p b s.2.2.1 (by rw [hP]; exact hq) t4 h4 hp hb)) rfl (fun M52 p52 => ?_)
    obtain ⟨u1, u2⟩ := p52
    replace hP : M52.2.2 = P := u1.r.trans hP
    have u3 : kF bCA bCI bCL m M M52 := t1.tr (u1.mono bL_C (bN_ _) (bN_ _))
    have u4 : zl M52 m 14 = lN (mLow1 s p b) := (u1.l 14 rfl).trans t2
    have u5 : zl M52 m 15 = lN (mRg1 s.2.1 (s.2.2.1 p) b) := (u1.l 15 rfl).trans t3
    have u6 : zi M52 m 17 = nI s.2.2.2.1 := (u1.i 17 rfl).trans t5
    have u7 : ∀ j, j < s.2.2.2.1 → zi M52 (m + 10) j = nI (s.2.2.2.2 j) := fun j hj => (u1.a 10 (by decide) rfl j).trans (t6 j hj)
    refine g_aload_n (q := 56) hx d_Mo_put_55 rfl rfl ?_
    refine g_getl (q := 59) hx d_Mo_put_56 rfl fl_Mo_82 hq.g0 u4 ?_
    refine g_ldc2 (q := 62) (v := lN 4294967296) hx d_Mo_put_59 rfl ct_Mo_99 ?_
    refine g_lcmp (q := 63) hx d_Mo_put_62 rfl ?_
    refine g_if_lt (q := 66) (t := 82) hx d_Mo_put_63 rfl rfl (zc_lt (by omega) (by omega)) (fun hl => ?_) (fun hl => ?_)
    · exact tail2 _ u3 (u4.trans (congrArg lN (if_neg (by omega)).symm)) u5 u2 u6 (fun j hj => (u7 j hj).trans (congrArg nI (congrFun (if_neg (by omega)).symm j)))
    · refine g_aload_n (q := 67) hx d_Mo_put_66 rfl rfl ?_
      refine g_aload_n (q := 68) hx d_Mo_put_67 rfl rfl ?_
      refine g_getl (q := 71) hx d_Mo_put_68 rfl fl_Mo_82 hq.g0 u4 ?_
      refine g_ldc2 (q := 74) (v := lN 4294967296) hx d_Mo_put_71 rfl ct_Mo_99 ?_
      refine g_lsub (q := 75) hx d_Mo_put_74 rfl (lN_sub (by omega)) ?_
      refine g_putl (q := 78) hx d_Mo_put_75 rfl fl_Mo_82 nf_7_14 hq.g0 ?_
      refine g_aload_n (q := 79) hx d_Mo_put_78 rfl rfl ?_
      refine g_cv (q := 82) (zrunV hx d_Mo_put_79 lk_Mo_101 rfl rfl hq.g0 rfl rfl (Nat.le_of_ble_eq_true rfl) (by decide) (by omega) (by omega) (c_Mo_carry _ E Γ n _ m s.2.2.2.1 s.2.2.2.2 (by rw [show (zsl M52 m 14 _).2.2 = P from hP]; exact hq) u6 u7 (hio.2.1 (by omega)).1 (by omega) h5 (hio.2.1 (by omega)).2)) rfl (fun M79 p79 => ?_)
      obtain ⟨v1, v2⟩ := p79
      exact tail2 _ ((u3.sl rfl).tr (v1.mono bR_C (bN_ _) (bN_ _))) ((v1.l 14 rfl).trans ((zl_s _ _ _ _).trans (congrArg lN (if_pos (by omega)).symm))) ((v1.l 15 rfl).trans ((zl_k (by decide)).trans u5)) (fun q hq => (v1.a 9 (by decide) rfl q).trans (u2 q hq)) ((v1.i 17 rfl).trans u6) (fun j hj => (v2 j hj).trans (congrArg nI (congrFun (if_pos (by omega)).symm j)))
  refine g_aload_n (q := 1) hx d_Mo_put_0 rfl rfl ?_
  refine g_getl (q := 4) hx d_Mo_put_1 rfl fl_Mo_88 hq.g0 e2 ?_
  refine g_ldc2 (q := 7) (v := lN 2048) hx d_Mo_put_4 rfl ct_Mo_94 ?_
  refine g_ldiv (q := 8) hx d_Mo_put_7 rfl (zl_ne0 (by omega) (by omega)) (pk_lDiv (by omega) (by omega) (by omega)) ?_
  refine g_aload_n (q := 9) hx d_Mo_put_8 rfl rfl ?_
  refine g_geta (q := 12) hx d_Mo_put_9 rfl fl_Mo_34 hq.g0 (hq.p9 hP) (by first | exact Nat.succ_ne_zero _ | omega) ?_
  refine g_iload_n (q := 13) hx d_Mo_put_12 rfl rfl ?_
  refine g_iald (q := 14) hx d_Mo_put_13 rfl hq.g9 rfl (by omega) (by decide) (e3 p (by omega)) ?_
  refine g_i2l (q := 15) hx d_Mo_put_14 rfl (nI_l (by omega)) ?_
  refine g_lmul (q := 16) hx d_Mo_put_15 rfl (show lN _ * lN _ = lN (mB s.2.1 (s.2.2.1 p)) from lN_mul _ _) ?_
  refine g_lstore_n (q := 17) (lc' := [(3, _), (0, _), (1, _), (2, _)]) hx d_Mo_put_16 rfl (by decide) rfl ?_
  refine g_iload_n (q := 18) hx d_Mo_put_17 rfl rfl ?_
  refine g_if_ne (q := 21) (t := 29) hx d_Mo_put_18 rfl rfl (zb_ne0 (by omega)) (fun hb0 => ?_) (fun hb0 => ?_)
  · refine g_aload_n (q := 30) hx d_Mo_put_29 rfl rfl ?_
    refine g_aload_n (q := 31) hx d_Mo_put_30 rfl rfl ?_
    refine g_getl (q := 34) hx d_Mo_put_31 rfl fl_Mo_82 hq.g0 e1 ?_
    refine g_lload_n (q := 35) hx d_Mo_put_34 rfl rfl ?_
    refine g_ladd (q := 36) hx d_Mo_put_35 rfl (lN_add _ _) ?_
    refine g_putl (q := 39) hx d_Mo_put_36 rfl fl_Mo_82 nf_7_14 hq.g0 ?_
    refine g_aload_n (q := 40) hx d_Mo_put_39 rfl rfl ?_
    refine g_aload_n (q := 41) hx d_Mo_put_40 rfl rfl ?_
    refine g_getl (q := 44) hx d_Mo_put_41 rfl fl_Mo_88 hq.g0 ((zl_k (by decide)).trans e2) ?_
    refine g_lload_n (q := 45) hx d_Mo_put_44 rfl rfl ?_
    refine g_lsub (q := 46) hx d_Mo_put_45 rfl (lN_sub (by omega)) ?_
    refine g_putl (q := 49) hx d_Mo_put_46 rfl fl_Mo_88 nf_7_15 hq.g0 ?_
    exact tail1 _ ((kF.rf.sl rfl).sl rfl) ((zl_k (by decide)).trans ((zl_s _ _ _ _).trans (congrArg lN (if_neg hb0).symm))) ((zl_s _ _ _ _).trans (congrArg lN (if_neg hb0).symm)) e3 e4 e5
  · refine g_aload_n (q := 22) hx d_Mo_put_21 rfl rfl ?_
    refine g_lload_n (q := 23) hx d_Mo_put_22 rfl rfl ?_
    refine g_putl (q := 26) hx d_Mo_put_23 rfl fl_Mo_88 nf_7_15 hq.g0 ?_
    refine g_goto (q := 49) hx d_Mo_put_26 rfl ?_
    exact tail1 _ (kF.rf.sl rfl) ((zl_k (by decide)).trans (e1.trans (congrArg lN (if_pos (by omega)).symm))) ((zl_s _ _ _ _).trans (congrArg lN (if_pos (by omega)).symm)) e3 e4 e5
