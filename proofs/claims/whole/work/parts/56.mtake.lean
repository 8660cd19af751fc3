set_option maxHeartbeats 4000000 in
set_option maxRecDepth 100000 in
theorem c_Mo_copy (l : Launch) (E : zE) (Γ : zG) (n : Nat) (M : zM) (m : Nat) (a b : Nat) (rd : mRd) (hq : qX Γ M.2.2 m) (hS : qS M m a rd) (ha : a < 31) (hb : b < 31) (hab : a ≠ b) (h12 : rd.2.length ≤ 12) :
    zCt l E Y_Mo_copy 0 (0, 0) [.ref m, .int (nI a), .int (nI b)] Γ n M (zPv Γ n (fun M' => kF bSA bN bN m M M' ∧ kS b m M M' ∧ qS M' m b rd)) := by
  refine zCt.of [(0, .ref m), (1, .int (nI a)), (2, .int (nI b))] (by decide) (Nat.le_of_ble_eq_true rfl) rfl (fun f hfl hx hQ => ?_)
  obtain ⟨P, hP⟩ : ∃ P, M.2.2 = P := ⟨_, rfl⟩
  rw [hP] at hq
  have hm0 := hq.m0
  obtain ⟨q1, q2, q3, q4, q5⟩ := hS
  have loop : ∀ (i : Nat) (M1 : zM), i ≤ 12 → kF bSA bN bN m M M1 → kS b m M M1 → zi M1 (m + 2) b = nI rd.1 → zi M1 (m + 3) b = nI rd.2.length → zi M1 (m + 4) b = nI (mBc rd.2) → zi M1 (m + 5) b = nI (mPs rd.2) → (∀ j, j < i → zi M1 (m + 6) (12 * b + j) = zi M (m + 6) (12 * a + j) ∧ zi M1 (m + 7) (12 * b + j) = zi M (m + 7) (12 * a + j)) → zGo f E Γ n (0, 0) M1 50 [(3, .int (nI i)), (0, .ref m), (1, .int (nI a)), (2, .int (nI b))] [] := by
    refine z_lp (fun i => 12 - i) _ ?_
    intro i M1 ih hi t1 t2 t3 t4 t5 t6 t7
    replace hP : M1.2.2 = P := t1.r.trans hP
    refine g_iload_n (q := 51) hx d_Mo_copy_50 rfl rfl ?_
    refine g_bipush (q := 53) (v := nI 12) hx d_Mo_copy_51 rfl (by decide) ?_
    refine g_icmp_ge (q := 56) (t := 106) hx d_Mo_copy_53 rfl rfl (nI_leI (by omega) (by omega)) (fun h53 => ?_) (fun h53 => ?_)
    · exact g_vret hx d_Mo_copy_106 rfl hQ ⟨Nat.le_refl _, Nat.le_refl _⟩ ⟨rfl, rfl, rfl, t1, t2, t3, t4, t5, t6, fun j hj => ⟨(t7 j (by omega)).1.trans (q5 j hj).1, (t7 j (by omega)).2.trans (q5 j hj).2⟩⟩
    · refine g_aload_n (q := 57) hx d_Mo_copy_56 rfl rfl ?_
      refine g_geta (q := 60) hx d_Mo_copy_57 rfl fl_Mo_25 hq.g0 (hq.p6 hP) (by first | exact Nat.succ_ne_zero _ | omega) ?_
      refine g_bipush (q := 62) (v := nI 12) hx d_Mo_copy_60 rfl (by decide) ?_
      refine g_iload_n (q := 63) hx d_Mo_copy_62 rfl rfl ?_
      refine g_imul (q := 64) hx d_Mo_copy_63 rfl (pk_mul _ _) ?_
      refine g_iload_n (q := 65) hx d_Mo_copy_64 rfl rfl ?_
      refine g_iadd (q := 66) hx d_Mo_copy_65 rfl (nI_add _ _) ?_
      refine g_aload_n (q := 67) hx d_Mo_copy_66 rfl rfl ?_
      refine g_geta (q := 70) hx d_Mo_copy_67 rfl fl_Mo_25 hq.g0 (hq.p6 hP) (by first | exact Nat.succ_ne_zero _ | omega) ?_
      refine g_bipush (q := 72) (v := nI 12) hx d_Mo_copy_70 rfl (by decide) ?_
      refine g_iload_n (q := 73) hx d_Mo_copy_72 rfl rfl ?_
      refine g_imul (q := 74) hx d_Mo_copy_73 rfl (pk_mul _ _) ?_
      refine g_iload_n (q := 75) hx d_Mo_copy_74 rfl rfl ?_
      refine g_iadd (q := 76) hx d_Mo_copy_75 rfl (nI_add _ _) ?_
      refine g_iald (q := 77) hx d_Mo_copy_76 rfl hq.g6 rfl (by omega) (by decide) ((t2.2 6 _ (by decide) (by decide) (by omega))) ?_
      refine g_iast (q := 78) hx d_Mo_copy_77 rfl hq.g6 rfl (by omega) (by decide) ?_
      refine g_aload_n (q := 79) hx d_Mo_copy_78 rfl rfl ?_
      refine g_geta (q := 82) hx d_Mo_copy_79 rfl fl_Mo_28 hq.g0 (hq.p7 hP) (by first | exact Nat.succ_ne_zero _ | omega) ?_
      refine g_bipush (q := 84) (v := nI 12) hx d_Mo_copy_82 rfl (by decide) ?_
      refine g_iload_n (q := 85) hx d_Mo_copy_84 rfl rfl ?_
      refine g_imul (q := 86) hx d_Mo_copy_85 rfl (pk_mul _ _) ?_
      refine g_iload_n (q := 87) hx d_Mo_copy_86 rfl rfl ?_
      refine g_iadd (q := 88) hx d_Mo_copy_87 rfl (nI_add _ _) ?_
      refine g_aload_n (q := 89) hx d_Mo_copy_88 rfl rfl ?_
      refine g_geta (q := 92) hx d_Mo_copy_89 rfl fl_Mo_28 hq.g0 (hq.p7 hP) (by first | exact Nat.succ_ne_zero _ | omega) ?_
      refine g_bipush (q := 94) (v := nI 12) hx d_Mo_copy_92 rfl (by decide) ?_
      refine g_iload_n (q := 95) hx d_Mo_copy_94 rfl rfl ?_
      refine g_imul (q := 96) hx d_Mo_copy_95 rfl (pk_mul _ _) ?_
      refine g_iload_n (q := 97) hx d_Mo_copy_96 rfl rfl ?_
      refine g_iadd (q := 98) hx d_Mo_copy_97 rfl (nI_add _ _) ?_
      refine g_iald (q := 99) hx d_Mo_copy_98 rfl hq.g7 rfl (by omega) (by decide) ((zi_a (by omega)).trans (t2.2 7 _ (by decide) (by decide) (by omega))) ?_
      refine g_iast (q := 100) hx d_Mo_copy_99 rfl hq.g7 rfl (by omega) (by decide) ?_
      refine g_iinc (q := 103) (lc' := [(3, _), (0, _), (1, _), (2, _)]) hx d_Mo_copy_100 rfl rfl (z_inc _) (by decide) rfl ?_
      refine g_goto (q := 50) hx d_Mo_copy_103 rfl ?_
      refine ih (i + 1) _ (by omega) (by omega) ((t1.sa rfl (by decide) (by decide)).sa rfl (by decide) (by decide)) ((t2.t (by decide) (by omega)).t (by decide) (by omega)) (by rw [zi_a (by omega), zi_a (by omega)]; exact t3) (by rw [zi_a (by omega), zi_a (by omega)]; exact t4) (by rw [zi_a (by omega), zi_a (by omega)]; exact t5) (by rw [zi_a (by omega), zi_a (by omega)]; exact t6) (fun j hj => ?_)
      rw [zi_a (by omega)]
      by_cases e9 : j = i
      · subst e9; rw [zi_s, zi_s]; exact ⟨rfl, rfl⟩
      · rw [zi_k (by omega), zi_k (by omega), zi_a (by omega)]; exact t7 j (by omega)
  refine g_aload_n (q := 1) hx d_Mo_copy_0 rfl rfl ?_
  refine g_geta (q := 4) hx d_Mo_copy_1 rfl fl_Mo_13 hq.g0 (hq.p2 hP) (by first | exact Nat.succ_ne_zero _ | omega) ?_
  refine g_iload_n (q := 5) hx d_Mo_copy_4 rfl rfl ?_
  refine g_aload_n (q := 6) hx d_Mo_copy_5 rfl rfl ?_
  refine g_geta (q := 9) hx d_Mo_copy_6 rfl fl_Mo_13 hq.g0 (hq.p2 hP) (by first | exact Nat.succ_ne_zero _ | omega) ?_
  refine g_iload_n (q := 10) hx d_Mo_copy_9 rfl rfl ?_
  refine g_iald (q := 11) hx d_Mo_copy_10 rfl hq.g2 rfl (by omega) (by decide) q1 ?_
  refine g_iast (q := 12) hx d_Mo_copy_11 rfl hq.g2 rfl (by omega) (by decide) ?_
  refine g_aload_n (q := 13) hx d_Mo_copy_12 rfl rfl ?_
  refine g_geta (q := 16) hx d_Mo_copy_13 rfl fl_Mo_16 hq.g0 (hq.p3 hP) (by first | exact Nat.succ_ne_zero _ | omega) ?_
  refine g_iload_n (q := 17) hx d_Mo_copy_16 rfl rfl ?_
  refine g_aload_n (q := 18) hx d_Mo_copy_17 rfl rfl ?_
  refine g_geta (q := 21) hx d_Mo_copy_18 rfl fl_Mo_16 hq.g0 (hq.p3 hP) (by first | exact Nat.succ_ne_zero _ | omega) ?_
  refine g_iload_n (q := 22) hx d_Mo_copy_21 rfl rfl ?_
  refine g_iald (q := 23) hx d_Mo_copy_22 rfl hq.g3 rfl (by omega) (by decide) ((zi_a (by omega)).trans q2) ?_
  refine g_iast (q := 24) hx d_Mo_copy_23 rfl hq.g3 rfl (by omega) (by decide) ?_
  refine g_aload_n (q := 25) hx d_Mo_copy_24 rfl rfl ?_
  refine g_geta (q := 28) hx d_Mo_copy_25 rfl fl_Mo_19 hq.g0 (hq.p4 hP) (by first | exact Nat.succ_ne_zero _ | omega) ?_
  refine g_iload_n (q := 29) hx d_Mo_copy_28 rfl rfl ?_
  refine g_aload_n (q := 30) hx d_Mo_copy_29 rfl rfl ?_
  refine g_geta (q := 33) hx d_Mo_copy_30 rfl fl_Mo_19 hq.g0 (hq.p4 hP) (by first | exact Nat.succ_ne_zero _ | omega) ?_
  refine g_iload_n (q := 34) hx d_Mo_copy_33 rfl rfl ?_
  refine g_iald (q := 35) hx d_Mo_copy_34 rfl hq.g4 rfl (by omega) (by decide) ((zi_a (by omega)).trans ((zi_a (by omega)).trans q3)) ?_
  refine g_iast (q := 36) hx d_Mo_copy_35 rfl hq.g4 rfl (by omega) (by decide) ?_
  refine g_aload_n (q := 37) hx d_Mo_copy_36 rfl rfl ?_
  refine g_geta (q := 40) hx d_Mo_copy_37 rfl fl_Mo_22 hq.g0 (hq.p5 hP) (by first | exact Nat.succ_ne_zero _ | omega) ?_
  refine g_iload_n (q := 41) hx d_Mo_copy_40 rfl rfl ?_
  refine g_aload_n (q := 42) hx d_Mo_copy_41 rfl rfl ?_
  refine g_geta (q := 45) hx d_Mo_copy_42 rfl fl_Mo_22 hq.g0 (hq.p5 hP) (by first | exact Nat.succ_ne_zero _ | omega) ?_
  refine g_iload_n (q := 46) hx d_Mo_copy_45 rfl rfl ?_
  refine g_iald (q := 47) hx d_Mo_copy_46 rfl hq.g5 rfl (by omega) (by decide) ((zi_a (by omega)).trans ((zi_a (by omega)).trans ((zi_a (by omega)).trans q4))) ?_
  refine g_iast (q := 48) hx d_Mo_copy_47 rfl hq.g5 rfl (by omega) (by decide) ?_
  refine g_iconst (q := 49) (v := nI 0) hx d_Mo_copy_48 rfl (by decide) ?_
  refine g_istore_n (q := 50) (lc' := [(3, _), (0, _), (1, _), (2, _)]) hx d_Mo_copy_49 rfl (by decide) rfl ?_
  exact loop 0 _ (Nat.zero_le _) ((((kF.rf.sa rfl (by decide) (by decide)).sa rfl (by decide) (by decide)).sa rfl (by decide) (by decide)).sa rfl (by decide) (by decide)) ((((kS.rf.s (by decide)).s (by decide)).s (by decide)).s (by decide)) ((zi_a (by omega)).trans ((zi_a (by omega)).trans ((zi_a (by omega)).trans (zi_s _ _ _ _)))) ((zi_a (by omega)).trans ((zi_a (by omega)).trans (zi_s _ _ _ _))) ((zi_a (by omega)).trans (zi_s _ _ _ _)) (zi_s _ _ _ _) (fun j hj => absurd hj (Nat.not_lt_zero _))
def bTA : Nat → Bool := fun i => i == 2 || i == 3 || i == 4 || i == 5 || i == 6 || i == 7 || i == 9
theorem bL_T : zSb bLA bTA := fun c h => by simp [bLA, bTA] at h ⊢; omega
theorem bS_T : zSb bSA bTA := fun c h => by simp [bSA, bTA] at h ⊢; omega
set_option maxHeartbeats 4000000 in
set_option maxRecDepth 100000 in
theorem c_Mo_takeRead (l : Launch) (E : zE) (Γ : zG) (n : Nat) (M : zM) (m : Nat) (r b len K : Nat) (ref : Nat → Nat) (b3 rl : Nat) (by_ : Nat → Nat) (s : mDe) (hq : qX Γ M.2.2 m) (hY : qY M m b3 rl by_) (hD : pD M m b3 s) (hR : qR M m len ref) (hr : r < 31) (hb : b ≤ 255) (h0 : mGd (K + 304) s) :
    zCt l E Y_Mo_takeRead 3 (0, 0) [.ref m, .int (nI r), .int (nI b)] Γ n M (zPi Γ n (fun v M' => kF bTA bGI bGL m M M' ∧ kS r m M M' ∧ ((v = nI 1 ∧ ∃ rd t, mTr by_ ref len b s = some (rd, t) ∧ qS M' m r rd ∧ mOk ref len rd ∧ 0 < mBc rd.2 ∧ pD M' m b3 t ∧ mGd K t) ∨ v = nI 0 ∧ mTr by_ ref len b s = none))) := by
  refine zCt.of [(0, .ref m), (1, .int (nI r)), (2, .int (nI b))] (by decide) (Nat.le_of_ble_eq_true rfl) rfl (fun f hfl hx hQ => ?_)
  have hq0 := hq
  have hP : M.2.2 = M.2.2 := rfl
  have hm0 := hq.m0
  have k1 : kF bTA bGI bGL m M M := kF.rf
  have hl160 := hR.2.2.1
  refine g_iload_n (q := 1) hx d_Mo_takeRead_0 rfl rfl ?_
  refine g_aload_n (q := 2) hx d_Mo_takeRead_1 rfl rfl ?_
  refine g_iconst (q := 3) (v := nI 0) hx d_Mo_takeRead_2 rfl (by decide) ?_
  refine g_ci (q := 6) (zrunV hx d_Mo_takeRead_3 lk_Mo_162 rfl rfl hq.g0 rfl rfl (Nat.le_of_ble_eq_true rfl) (by decide) (by omega) (by omega) (c_Mo_getN _ E Γ n _ m 0 (K + 286) b3 rl by_ s (by rw [k1.r]; exact hq0) hY hD (by omega) (h0.mono (by omega)))) rfl (fun r3 M2 p3 => ?_)
  obtain ⟨rfl, z3, d3, c3⟩ := p3
  have hgl := mGn_lt by_ 0 s
  replace k1 : kF bTA bGI bGL m M M2 := z3.mono bL_T (zSb_rf _) (zSb_rf _)
  have k2 : kS r m M M2 := kS.of z3 rfl rfl rfl rfl rfl rfl
  replace hP := k1.r
  refine g_iadd (q := 7) hx d_Mo_takeRead_6 rfl (nI_add _ _) ?_
  refine g_istore_n (q := 8) (lc' := [(3, _), (0, _), (1, _), (2, _)]) hx d_Mo_takeRead_7 rfl (by decide) rfl ?_
  refine g_iload_n (q := 9) hx d_Mo_takeRead_8 rfl rfl ?_
  refine g_aload_n (q := 10) hx d_Mo_takeRead_9 rfl rfl ?_
  refine g_geti (q := 13) hx d_Mo_takeRead_10 rfl fl_Mo_57 hq.g0 ((k1.i 1 rfl).trans hR.1) ?_
  refine g_icmp_le (q := 16) (t := 18) hx d_Mo_takeRead_13 rfl rfl (nI_leI (by omega) (by omega)) (fun h13 => ?_) (fun h13 => ?_)
  · obtain ⟨pos, hpos⟩ : ∃ p, p = b + (mGn by_ 0 s).1 := ⟨_, rfl⟩
    have hT : mTr by_ ref len b s = match mTk by_ ref len pos 13 [] 4 (mGn by_ 0 s).2 with
      | none => none
      | some (es, t) => some ((pos, es), t) := by
      rw [hpos]
      unfold mTr
      rw [if_neg (by omega)]
      try rfl
    rw [← hpos] at h13 ⊢
    refine g_aload_n (q := 19) hx d_Mo_takeRead_18 rfl rfl ?_
    refine g_iload_n (q := 20) hx d_Mo_takeRead_19 rfl rfl ?_
    refine g_iload_n (q := 21) hx d_Mo_takeRead_20 rfl rfl ?_
    refine g_cv (q := 24) (zrunV hx d_Mo_takeRead_21 lk_Mo_63 rfl rfl hq.g0 rfl rfl (Nat.le_of_ble_eq_true rfl) (by decide) (by omega) (by omega) (c_Mo_open _ E Γ n _ m r pos (by rw [k1.r]; exact hq0) hr)) rfl (fun M3 p21 => ?_)
    obtain ⟨z4, x4, s4⟩ := p21
    replace k1 := k1.tr (z4.mono bS_T (bN_ _) (bN_ _))
    replace k2 := k2.tr x4
    replace hP := k1.r
    refine g_iconst (q := 25) (v := nI 4) hx d_Mo_takeRead_24 rfl (by decide) ?_
    refine g_istore (q := 27) (lc' := [(4, _), (3, _), (0, _), (1, _), (2, _)]) hx d_Mo_takeRead_25 rfl (by decide) rfl ?_
    refine g_aload_n (q := 28) hx d_Mo_takeRead_27 rfl rfl ?_
    refine g_iload (q := 30) hx d_Mo_takeRead_28 rfl rfl ?_
    refine g_ci (q := 33) (zrunV hx d_Mo_takeRead_30 lk_Mo_165 rfl rfl hq.g0 rfl rfl (Nat.le_of_ble_eq_true rfl) (by decide) (by omega) (by omega) (c_Mo_getKind _ E Γ n _ m 4 (K + 282) b3 rl by_ (mGn by_ 0 s).2 (by rw [k1.r]; exact hq0) (hY.kp k1 rfl rfl) (d3.kp z4 rfl rfl rfl rfl) (by omega) c3)) rfl (fun r30 M4 p30 => ?_)
    obtain ⟨rfl, z5, d5, c5⟩ := p30
    refine g_istore (q := 35) (lc' := [(5, _), (4, _), (3, _), (0, _), (1, _), (2, _)]) hx d_Mo_takeRead_33 rfl (by decide) rfl ?_
    have loop : ∀ (i : Nat) (M1 : zM), ∀ (es : List (Nat × Nat)) (last : Nat) (s0 : mDe), es.length = i → kF bTA bGI bGL m M M1 → kS r m M M1 → qS M1 m r (pos, es) → pD M1 m b3 (mGkd by_ last s0).2 → mGd (22 * (12 - es.length) + 18 + K) (mGkd by_ last s0).2 → mLs es last → mOk ref len (pos, es) → mTk by_ ref len pos (13 - es.length) es last s0 = mTk by_ ref len pos 13 [] 4 (mGn by_ 0 s).2 → zGo f E Γ n (0, 0) M1 35 [(5, .int (nI (mGkd by_ last s0).1)), (4, .int (nI last)), (3, .int (nI pos)), (0, .ref m), (1, .int (nI r)), (2, .int (nI b))] [] := by
      refine z_lp (fun i => 12 - i) _ ?_
      intro i M1 ih es last s0 hesi k1 k2 s1 d1 c1 hls hok hF
      subst hesi
      replace hP := k1.r
      have hkd5 := mGkd_lt by_ last s0
      have hes12 : es.length ≤ 12 := hok.2.2.2
      have hpl : pos + mPs es ≤ len := mPs_fit hok
      have hl5 := hls.1
      have hbc20 : mBc es ≤ 20 := hok.2.2.1
      have tail : ∀ (M1 : zM) (k v : Nat) (t : mDe), k < 4 → (mGkd by_ last s0).1 = k → (mGe by_ ref (pos + mPs es) k (mGkd by_ last s0).2) = (v, t) → v ≤ 1023 → kF bTA bGI bGL m M M1 → kS r m M M1 → qS M1 m r (pos, es) → pD M1 m b3 t → mGd (22 * (12 - es.length) + K) t → ¬ mJn es k → ¬ (k = 1 ∧ len ≤ pos + mPs es) → zGo f E Γ n (0, 0) M1 203 [(6, .int (nI v)), (5, .int (nI k)), (4, .int (nI last)), (3, .int (nI pos)), (0, .ref m), (1, .int (nI r)), (2, .int (nI b))] [] := by
        intro M1 k v t hk4 hke hge hv9 k1 k2 s1 d1 c1 hnj hnc
        replace hP := k1.r
        have hge1 : (mGe by_ ref (pos + mPs es) (mGkd by_ last s0).1 (mGkd by_ last s0).2).1 = v := by rw [hke, hge]
        have hge2 : (mGe by_ ref (pos + mPs es) (mGkd by_ last s0).1 (mGkd by_ last s0).2).2 = t := by rw [hke, hge]
        have hno : ¬ mGood9 ref len (pos, es) k v → mTk by_ ref len pos (12 - es.length + 1) es last s0 = none := fun q => mTk_no (by omega) hls (by rw [hge1, hke]; exact q)
        have hyes : mGood9 ref len (pos, es) k v → mTk by_ ref len pos (12 - es.length + 1) es last s0 = mTk by_ ref len pos (12 - es.length) (es ++ [(k, v)]) k t := fun q => by
          have h9 := mTk_yes (by_ := by_) (ref := ref) (len := len) (pos := pos) (n := 12 - es.length) (last := last) (es := es) (s := s0) (by rw [hke]; exact hk4) hls (by rw [hge1, hke]; exact q)
          rw [hge1, hge2, hke] at h9
          exact h9
        rw [show 13 - es.length = 12 - es.length + 1 by omega] at hF
        refine g_aload_n (q := 204) hx d_Mo_takeRead_203 rfl rfl ?_
        refine g_iload_n (q := 205) hx d_Mo_takeRead_204 rfl rfl ?_
        refine g_iload (q := 207) hx d_Mo_takeRead_205 rfl rfl ?_
        refine g_iload (q := 209) hx d_Mo_takeRead_207 rfl rfl ?_
        refine g_ci (q := 212) (zrunV hx d_Mo_takeRead_209 lk_Mo_67 rfl rfl hq.g0 rfl rfl (Nat.le_of_ble_eq_true rfl) (by decide) (by omega) (by omega) (c_Mo_barred _ E Γ n _ m r len ref (pos, es) (nI k) (nI v) (by rw [k1.r]; exact hq0) (hR.kp k1 rfl rfl) s1 hr hpl hes12 hok.2.2.1 (mFits_ks hok.2.1))) rfl (fun r209 M2 p209 => ?_)
        obtain ⟨rfl, p209⟩ := p209
        have hj9 : ¬ mJn es k := hnj
        have hiff : ∀ k9 u9 : Nat, nI k = nI k9 → k9 < 4 → nI v = nI u9 → u9 < 2 ^ 31 → k9 = k ∧ u9 = v := fun k9 u9 w1 w2 w3 w4 => ⟨(nI_inj4 w1 w2 hk4).symm, ((nI_eq (by omega) w4).mp w3).symm⟩
        rcases p209 with ⟨rfl, hz⟩ | ⟨k9, u9, w1, w2, w3, w4, hfit, hz⟩
        rotate_left
        obtain ⟨rfl, rfl⟩ := hiff k9 u9 w1 w2 w3 w4
        rcases hz with ⟨rfl, hz⟩ | ⟨rfl, hz⟩
        · refine g_if_le (q := 215) (t := 217) hx d_Mo_takeRead_212 rfl rfl (zb_le0 (by omega)) (fun h212 => ?_) (fun h212 => ?_)
          · exact absurd h212 (by omega)
          · refine g_iconst (q := 216) (v := nI 0) hx d_Mo_takeRead_215 rfl (by decide) ?_
            exact g_zret hx d_Mo_takeRead_216 rfl (by decide) hQ ⟨Nat.le_refl _, Nat.le_refl _⟩ ⟨_, rfl, rfl, rfl, k1, k2, Or.inr ⟨rfl, by rw [hT, ← hF, hno (fun q => hz ⟨((mMay_iff hk4).mp q.2.2).2.1, Or.inr ((mMay_iff hk4).mp q.2.2).2.2⟩)]⟩⟩
        · refine g_if_le (q := 215) (t := 217) hx d_Mo_takeRead_212 rfl rfl (zb_le0 (by omega)) (fun h212 => ?_) (fun h212 => ?_)
          · refine g_aload_n (q := 218) hx d_Mo_takeRead_217 rfl rfl ?_
            refine g_iload_n (q := 219) hx d_Mo_takeRead_218 rfl rfl ?_
            refine g_iload (q := 221) hx d_Mo_takeRead_219 rfl rfl ?_
            refine g_iload (q := 223) hx d_Mo_takeRead_221 rfl rfl ?_
            refine g_cv (q := 226) (zrunV hx d_Mo_takeRead_223 lk_Mo_71 rfl rfl hq.g0 rfl rfl (Nat.le_of_ble_eq_true rfl) (by decide) (by omega) (by omega) (c_Mo_append _ E Γ n _ m r (pos, es) k9 u9 (by rw [k1.r]; exact hq0) s1 hr hes12 w2 hz (mFits_ks hok.2.1))) rfl (fun M3 p223 => ?_)
            obtain ⟨z3, x3, s3⟩ := p223
            have hok3 := mAdd_ok hok hfit hz
            dsimp only at s3 hok3
            rw [mAdd_n (e := (k9, u9)) hj9] at s3 hok3
            have hlt12 : es.length < 12 := hz.2.resolve_left hj9
            have hg9 : mGood9 ref len (pos, es) k9 u9 := ⟨hj9, hnc, (mMay_iff w2).mpr ⟨hfit, hz.1, hlt12⟩⟩
            replace k1 := k1.tr (z3.mono bS_T (bN_ _) (bN_ _))
            replace k2 := k2.tr x3
            replace hP := k1.r
            refine g_iload (q := 228) hx d_Mo_takeRead_226 rfl rfl ?_
            refine g_istore (q := 230) (lc' := [(4, _), (6, _), (5, _), (3, _), (0, _), (1, _), (2, _)]) hx d_Mo_takeRead_228 rfl (by decide) rfl ?_
            refine g_aload_n (q := 231) hx d_Mo_takeRead_230 rfl rfl ?_
            refine g_iload (q := 233) hx d_Mo_takeRead_231 rfl rfl ?_
            refine g_ci (q := 236) (zrunV hx d_Mo_takeRead_233 lk_Mo_165 rfl rfl hq.g0 rfl rfl (Nat.le_of_ble_eq_true rfl) (by decide) (by omega) (by omega) (c_Mo_getKind _ E Γ n _ m k9 (22 * (11 - es.length) + 18 + K) b3 rl by_ t (by rw [k1.r]; exact hq0) (hY.kp k1 rfl rfl) (d1.kp z3 rfl rfl rfl rfl) (by omega) (c1.mono (by omega)))) rfl (fun r233 M4 p233 => ?_)
            obtain ⟨rfl, z4, d4, c4⟩ := p233
            refine g_istore (q := 238) (lc' := [(5, _), (4, _), (6, _), (3, _), (0, _), (1, _), (2, _)]) hx d_Mo_takeRead_236 rfl (by decide) rfl ?_
            refine g_goto (q := 35) hx d_Mo_takeRead_238 rfl ?_
            refine z_perm (lc' := [(5, .int (nI (mGkd by_ k9 t).1)), (4, .int (nI k9)), (3, .int (nI pos)), (0, .ref m), (1, .int (nI r)), (2, .int (nI b))]) (fun q hq => by simp only [List.mem_cons, List.not_mem_nil, or_false] at hq ⊢; rcases hq with h | h | h | h | h | h <;> simp [h]) ?_
            refine ih (es.length + 1) M4 (by omega) (es ++ [(k9, u9)]) k9 t (by simp) (k1.tr (z4.mono bL_T (zSb_rf _) (zSb_rf _))) (k2.tr (kS.of z4 rfl rfl rfl rfl rfl rfl)) (s3.kp z4 rfl rfl rfl rfl rfl rfl) d4 (by simpa [show 12 - (es.length + 1) = 11 - es.length by omega] using c4) (mLs_n w2) hok3 ?_
            rw [← hF, hyes hg9, List.length_append, List.length_singleton, show 13 - (es.length + 1) = 12 - es.length by omega]
          · exact absurd h212 (by omega)
        · refine g_if_le (q := 215) (t := 217) hx d_Mo_takeRead_212 rfl rfl (zb_le0 (by omega)) (fun h212 => ?_) (fun h212 => ?_)
          · exact absurd h212 (by omega)
          · refine g_iconst (q := 216) (v := nI 0) hx d_Mo_takeRead_215 rfl (by decide) ?_
            exact g_zret hx d_Mo_takeRead_216 rfl (by decide) hQ ⟨Nat.le_refl _, Nat.le_refl _⟩ ⟨_, rfl, rfl, rfl, k1, k2, Or.inr ⟨rfl, by rw [hT, ← hF, hno (fun q => hz ⟨k, v, by omega, rfl, hk4, rfl, ((mMay_iff hk4).mp q.2.2).1⟩)]⟩⟩
      refine g_iload (q := 37) hx d_Mo_takeRead_35 rfl rfl ?_
      refine g_iconst (q := 38) (v := nI 4) hx d_Mo_takeRead_37 rfl (by decide) ?_
      refine g_icmp_eq (q := 41) (t := 241) hx d_Mo_takeRead_38 rfl rfl (nI_eq (by omega) (by omega)) (fun h38 => ?_) (fun h38 => ?_)
      · refine g_aload_n (q := 242) hx d_Mo_takeRead_241 rfl rfl ?_
        refine g_geta (q := 245) hx d_Mo_takeRead_242 rfl fl_Mo_19 hq.g0 (hq.p4 hP) (by first | exact Nat.succ_ne_zero _ | omega) ?_
        refine g_iload_n (q := 246) hx d_Mo_takeRead_245 rfl rfl ?_
        refine g_iald (q := 247) hx d_Mo_takeRead_246 rfl hq.g4 rfl (by omega) (by decide) (show zi M1 (m + 4) r = nI (mBc es) from s1.2.2.1) ?_
        refine g_if_le (q := 250) (t := 254) hx d_Mo_takeRead_247 rfl rfl (zb_le0 (by omega)) (fun h247 => ?_) (fun h247 => ?_)
        · refine g_iconst (q := 255) (v := nI 0) hx d_Mo_takeRead_254 rfl (by decide) ?_
          exact g_zret hx d_Mo_takeRead_255 rfl (by decide) hQ ⟨Nat.le_refl _, Nat.le_refl _⟩ ⟨_, rfl, rfl, rfl, k1, k2, Or.inr ⟨rfl, by rw [hT, ← hF, show 13 - es.length = 12 - es.length + 1 by omega, mTk_end h38, if_neg (by omega)]⟩⟩
        · refine g_iconst (q := 251) (v := nI 1) hx d_Mo_takeRead_250 rfl (by decide) ?_
          refine g_goto (q := 255) hx d_Mo_takeRead_251 rfl ?_
          exact g_zret hx d_Mo_takeRead_255 rfl (by decide) hQ ⟨Nat.le_refl _, Nat.le_refl _⟩ ⟨_, rfl, rfl, rfl, k1, k2, Or.inl ⟨rfl, (pos, es), (mGkd by_ last s0).2, by rw [hT, ← hF, show 13 - es.length = 12 - es.length + 1 by omega, mTk_end h38, if_pos (by omega)], s1, hok, by dsimp only; omega, d1, c1.mono (by omega)⟩⟩
      · obtain ⟨k, hke⟩ : ∃ k, (mGkd by_ last s0).1 = k := ⟨_, rfl⟩
        rw [hke] at h38 ⊢
        obtain rfl | rfl | rfl | rfl : k = 0 ∨ k = 1 ∨ k = 2 ∨ k = 3 := by omega
        · refine g_iconst (q := 42) (v := nI 0) hx d_Mo_takeRead_41 rfl (by decide) ?_
          refine g_istore (q := 44) (lc' := [(6, _), (5, _), (4, _), (3, _), (0, _), (1, _), (2, _)]) hx d_Mo_takeRead_42 rfl (by decide) rfl ?_
          refine g_iload (q := 46) hx d_Mo_takeRead_44 rfl rfl ?_
          refine g_if_eq (q := 49) (t := 55) hx d_Mo_takeRead_46 rfl rfl (zb_eq0 (by omega)) (fun h46 => ?_) (fun h46 => ?_)
          · refine g_aload_n (q := 56) hx d_Mo_takeRead_55 rfl rfl ?_
            refine g_iload (q := 58) hx d_Mo_takeRead_56 rfl rfl ?_
            refine g_if_ne (q := 61) (t := 65) hx d_Mo_takeRead_58 rfl rfl (zb_ne0 (by omega)) (fun h58 => ?_) (fun h58 => ?_)
            · exact absurd h58 (by omega)
            · refine g_iconst (q := 62) (v := nI 1) hx d_Mo_takeRead_61 rfl (by decide) ?_
              refine g_goto (q := 66) hx d_Mo_takeRead_62 rfl ?_
              refine g_ci (q := 69) (zrunV hx d_Mo_takeRead_66 lk_Mo_162 rfl rfl hq.g0 rfl rfl (Nat.le_of_ble_eq_true rfl) (by decide) (by omega) (by omega) (c_Mo_getN _ E Γ n _ m 1 (22 * (12 - es.length) + K) b3 rl by_ (mGkd by_ last s0).2 (by rw [k1.r]; exact hq0) (hY.kp k1 rfl rfl) d1 (by omega) (c1.mono (by omega)))) rfl (fun r66 M66 p66 => ?_)
              obtain ⟨rfl, z66, d66, c66⟩ := p66
              have hgl := mGn_lt by_ 1 (mGkd by_ last s0).2
              replace k1 := k1.tr (z66.mono bL_T (zSb_rf _) (zSb_rf _))
              replace k2 := k2.tr (kS.of z66 rfl rfl rfl rfl rfl rfl)
              replace s1 := s1.kp z66 rfl rfl rfl rfl rfl rfl
              replace d1 := d66
              replace hP := k1.r
              refine g_iconst (q := 70) (v := nI 1) hx d_Mo_takeRead_69 rfl (by decide) ?_
              refine g_iadd (q := 71) hx d_Mo_takeRead_70 rfl (nI_add _ _) ?_
              refine g_istore (q := 73) (lc' := [(6, _), (5, _), (4, _), (3, _), (0, _), (1, _), (2, _)]) hx d_Mo_takeRead_71 rfl (by decide) rfl ?_
              refine g_iload (q := 75) hx d_Mo_takeRead_73 rfl rfl ?_
              refine g_iload (q := 77) hx d_Mo_takeRead_75 rfl rfl ?_
              refine g_icmp_ne (q := 80) (t := 203) hx d_Mo_takeRead_77 rfl rfl (not_congr (nI_eq (by omega) (by omega))) (fun h77 => ?_) (fun h77 => ?_)
              · refine z_perm (lc' := [(6, .int (nI ((mGn by_ 1 (mGkd by_ last s0).2).1 + 1))), (5, .int (nI 0)), (4, .int (nI last)), (3, .int (nI pos)), (0, .ref m), (1, .int (nI r)), (2, .int (nI b))]) (fun q hq => by simp only [List.mem_cons, List.not_mem_nil, or_false] at hq ⊢; rcases hq with h | h | h | h | h | h | h <;> simp [h]) ?_
                exact tail _ 0 ((mGn by_ 1 (mGkd by_ last s0).2).1 + 1) _ (by omega) hke (by unfold mGe; simp) (by omega) k1 k2 s1 d1 c66 (fun q => by have := (hls.2 0 (by omega)).mp q; omega) (fun q => by omega)
              · refine g_iconst (q := 81) (v := nI 0) hx d_Mo_takeRead_80 rfl (by decide) ?_
                exact g_zret hx d_Mo_takeRead_81 rfl (by decide) hQ ⟨Nat.le_refl _, Nat.le_refl _⟩ ⟨_, rfl, rfl, rfl, k1, k2, Or.inr ⟨rfl, by rw [hT, ← hF, show 13 - es.length = 12 - es.length + 1 by omega, mTk_no (by omega) hls (fun q => q.1 ((hls.2 _ (by omega)).mpr ⟨by omega, by omega⟩))]⟩⟩
          · exact absurd h46 (by omega)
        · refine g_iconst (q := 42) (v := nI 0) hx d_Mo_takeRead_41 rfl (by decide) ?_
          refine g_istore (q := 44) (lc' := [(6, _), (5, _), (4, _), (3, _), (0, _), (1, _), (2, _)]) hx d_Mo_takeRead_42 rfl (by decide) rfl ?_
          refine g_iload (q := 46) hx d_Mo_takeRead_44 rfl rfl ?_
          refine g_if_eq (q := 49) (t := 55) hx d_Mo_takeRead_46 rfl rfl (zb_eq0 (by omega)) (fun h46 => ?_) (fun h46 => ?_)
          · exact absurd h46 (by omega)
          · refine g_iload (q := 51) hx d_Mo_takeRead_49 rfl rfl ?_
            refine g_iconst (q := 52) (v := nI 3) hx d_Mo_takeRead_51 rfl (by decide) ?_
            refine g_icmp_ne (q := 55) (t := 82) hx d_Mo_takeRead_52 rfl rfl (not_congr (nI_eq (by omega) (by omega))) (fun h52 => ?_) (fun h52 => ?_)
            · refine g_iload (q := 84) hx d_Mo_takeRead_82 rfl rfl ?_
              refine g_iconst (q := 85) (v := nI 1) hx d_Mo_takeRead_84 rfl (by decide) ?_
              refine g_icmp_ne (q := 88) (t := 179) hx d_Mo_takeRead_85 rfl rfl (not_congr (nI_eq (by omega) (by omega))) (fun h85 => ?_) (fun h85 => ?_)
              · exact absurd h85 (by omega)
              · refine g_aload_n (q := 89) hx d_Mo_takeRead_88 rfl rfl ?_
                refine g_geta (q := 92) hx d_Mo_takeRead_89 rfl fl_Mo_13 hq.g0 (hq.p2 hP) (by first | exact Nat.succ_ne_zero _ | omega) ?_
                refine g_iload_n (q := 93) hx d_Mo_takeRead_92 rfl rfl ?_
                refine g_iald (q := 94) hx d_Mo_takeRead_93 rfl hq.g2 rfl (by omega) (by decide) (show zi M1 (m + 2) r = nI pos from s1.1) ?_
                refine g_aload_n (q := 95) hx d_Mo_takeRead_94 rfl rfl ?_
                refine g_geta (q := 98) hx d_Mo_takeRead_95 rfl fl_Mo_22 hq.g0 (hq.p5 hP) (by first | exact Nat.succ_ne_zero _ | omega) ?_
                refine g_iload_n (q := 99) hx d_Mo_takeRead_98 rfl rfl ?_
                refine g_iald (q := 100) hx d_Mo_takeRead_99 rfl hq.g5 rfl (by omega) (by decide) (show zi M1 (m + 5) r = nI (mPs es) from s1.2.2.2.1) ?_
                refine g_iadd (q := 101) hx d_Mo_takeRead_100 rfl (nI_add _ _) ?_
                refine g_istore (q := 103) (lc' := [(7, _), (6, _), (5, _), (4, _), (3, _), (0, _), (1, _), (2, _)]) hx d_Mo_takeRead_101 rfl (by decide) rfl ?_
                refine g_iload (q := 105) hx d_Mo_takeRead_103 rfl rfl ?_
                refine g_aload_n (q := 106) hx d_Mo_takeRead_105 rfl rfl ?_
                refine g_geti (q := 109) hx d_Mo_takeRead_106 rfl fl_Mo_57 hq.g0 ((k1.i 1 rfl).trans hR.1) ?_
                refine g_icmp_lt (q := 112) (t := 114) hx d_Mo_takeRead_109 rfl rfl (nI_ltI (by omega) (by omega)) (fun h109 => ?_) (fun h109 => ?_)
                · have hra := hR.2.2.2 (pos + mPs es)
                  have hge0 : mBit (mGkd by_ last s0).2 (47 + 2 * ref (pos + mPs es)) = 0 → mGe by_ ref (pos + mPs es) 1 (mGkd by_ last s0).2 = (if 0 < ref (pos + mPs es) then 0 else 1, (mGet by_ (mGkd by_ last s0).2 (47 + 2 * ref (pos + mPs es)))) := fun q => by unfold mGe; rw [if_neg (by decide), if_neg (by decide), if_pos rfl, if_pos q]
                  have hge1 : ¬ mBit (mGkd by_ last s0).2 (47 + 2 * ref (pos + mPs es)) = 0 → mGe by_ ref (pos + mPs es) 1 (mGkd by_ last s0).2 = (if 1 + mBit (mGet by_ (mGkd by_ last s0).2 (47 + 2 * ref (pos + mPs es))) ((47 + 2 * ref (pos + mPs es)) + 1) < ref (pos + mPs es) then 1 + mBit (mGet by_ (mGkd by_ last s0).2 (47 + 2 * ref (pos + mPs es))) ((47 + 2 * ref (pos + mPs es)) + 1) else 1 + mBit (mGet by_ (mGkd by_ last s0).2 (47 + 2 * ref (pos + mPs es))) ((47 + 2 * ref (pos + mPs es)) + 1) + 1, (mGet by_ (mGet by_ (mGkd by_ last s0).2 (47 + 2 * ref (pos + mPs es))) ((47 + 2 * ref (pos + mPs es)) + 1))) := fun q => by unfold mGe; rw [if_neg (by decide), if_neg (by decide), if_pos rfl, if_neg q]
                  refine g_aload_n (q := 115) hx d_Mo_takeRead_114 rfl rfl ?_
                  refine g_geta (q := 118) hx d_Mo_takeRead_115 rfl fl_Mo_7 hq.g0 (hq.p1 hP) (by first | exact Nat.succ_ne_zero _ | omega) ?_
                  refine g_iload (q := 120) hx d_Mo_takeRead_118 rfl rfl ?_
                  refine g_iald (q := 121) hx d_Mo_takeRead_120 rfl hq.g1 rfl (by omega) (by decide) ((k1.a 1 (by decide) rfl _).trans (hR.2.1 _ (by omega))) ?_
                  refine g_istore (q := 123) (lc' := [(8, _), (7, _), (6, _), (5, _), (4, _), (3, _), (0, _), (1, _), (2, _)]) hx d_Mo_takeRead_121 rfl (by decide) rfl ?_
                  refine g_aload_n (q := 124) hx d_Mo_takeRead_123 rfl rfl ?_
                  refine g_bipush (q := 126) (v := nI 47) hx d_Mo_takeRead_124 rfl (by decide) ?_
                  refine g_iconst (q := 127) (v := nI 2) hx d_Mo_takeRead_126 rfl (by decide) ?_
                  refine g_iload (q := 129) hx d_Mo_takeRead_127 rfl rfl ?_
                  refine g_imul (q := 130) hx d_Mo_takeRead_129 rfl (pk_mul _ _) ?_
                  refine g_iadd (q := 131) hx d_Mo_takeRead_130 rfl (nI_add _ _) ?_
                  refine g_ci (q := 134) (zrunV hx d_Mo_takeRead_131 lk_Mo_159 rfl rfl hq.g0 rfl rfl (Nat.le_of_ble_eq_true rfl) (by decide) (by omega) (by omega) (c_Mo_get _ E Γ n _ m ((47 + 2 * ref (pos + mPs es))) b3 rl by_ (mGkd by_ last s0).2 (by rw [k1.r]; exact hq0) (hY.kp k1 rfl rfl) d1 c1.go (by omega))) rfl (fun r131 M131 p131 => ?_)
                  obtain ⟨rfl, z131, d131⟩ := p131
                  have hl131 := mBit_lt (mGkd by_ last s0).2 ((47 + 2 * ref (pos + mPs es)))
                  have c131 := (mGd.get hY.2.2.2.1 (p := (47 + 2 * ref (pos + mPs es))) (c1.mono (j := 22 * (12 - es.length) + K + 2) (by omega)) (by omega))
                  replace k1 := k1.tr (z131.mono bL_T (zSb_rf _) (zSb_rf _))
                  replace k2 := k2.tr (kS.of z131 rfl rfl rfl rfl rfl rfl)
                  replace s1 := s1.kp z131 rfl rfl rfl rfl rfl rfl
                  replace d1 := d131
                  replace hP := k1.r
                  clear z131 d131
                  generalize mBit (mGkd by_ last s0).2 ((47 + 2 * ref (pos + mPs es))) = w0 at *
                  generalize mGet by_ (mGkd by_ last s0).2 ((47 + 2 * ref (pos + mPs es))) = t0 at *
                  refine g_if_ne (q := 137) (t := 141) hx d_Mo_takeRead_134 rfl rfl (zb_ne0 (by omega)) (fun h134 => ?_) (fun h134 => ?_)
                  · refine g_iconst (q := 142) (v := nI 1) hx d_Mo_takeRead_141 rfl (by decide) ?_
                    refine g_aload_n (q := 143) hx d_Mo_takeRead_142 rfl rfl ?_
                    refine g_bipush (q := 145) (v := nI 47) hx d_Mo_takeRead_143 rfl (by decide) ?_
                    refine g_iconst (q := 146) (v := nI 2) hx d_Mo_takeRead_145 rfl (by decide) ?_
                    refine g_iload (q := 148) hx d_Mo_takeRead_146 rfl rfl ?_
                    refine g_imul (q := 149) hx d_Mo_takeRead_148 rfl (pk_mul _ _) ?_
                    refine g_iadd (q := 150) hx d_Mo_takeRead_149 rfl (nI_add _ _) ?_
                    refine g_iconst (q := 151) (v := nI 1) hx d_Mo_takeRead_150 rfl (by decide) ?_
                    refine g_iadd (q := 152) hx d_Mo_takeRead_151 rfl (nI_add _ _) ?_
                    refine g_ci (q := 155) (zrunV hx d_Mo_takeRead_152 lk_Mo_159 rfl rfl hq.g0 rfl rfl (Nat.le_of_ble_eq_true rfl) (by decide) (by omega) (by omega) (c_Mo_get _ E Γ n _ m ((47 + 2 * ref (pos + mPs es)) + 1) b3 rl by_ t0 (by rw [k1.r]; exact hq0) (hY.kp k1 rfl rfl) d1 c131.go (by omega))) rfl (fun r152 M152 p152 => ?_)
                    obtain ⟨rfl, z152, d152⟩ := p152
                    have hl152 := mBit_lt t0 ((47 + 2 * ref (pos + mPs es)) + 1)
                    have c152 := (mGd.get hY.2.2.2.1 (p := (47 + 2 * ref (pos + mPs es)) + 1) (c131.mono (j := 22 * (12 - es.length) + K + 1) (by omega)) (by omega))
                    replace k1 := k1.tr (z152.mono bL_T (zSb_rf _) (zSb_rf _))
                    replace k2 := k2.tr (kS.of z152 rfl rfl rfl rfl rfl rfl)
                    replace s1 := s1.kp z152 rfl rfl rfl rfl rfl rfl
                    replace d1 := d152
                    replace hP := k1.r
                    clear z152 d152
                    generalize mBit t0 ((47 + 2 * ref (pos + mPs es)) + 1) = w1 at *
                    generalize mGet by_ t0 ((47 + 2 * ref (pos + mPs es)) + 1) = t1 at *
                    refine g_iadd (q := 156) hx d_Mo_takeRead_155 rfl (nI_add _ _) ?_
                    refine g_istore (q := 158) (lc' := [(9, _), (8, _), (7, _), (6, _), (5, _), (4, _), (3, _), (0, _), (1, _), (2, _)]) hx d_Mo_takeRead_156 rfl (by decide) rfl ?_
                    refine g_iload (q := 160) hx d_Mo_takeRead_158 rfl rfl ?_
                    refine g_iload (q := 162) hx d_Mo_takeRead_160 rfl rfl ?_
                    refine g_icmp_ge (q := 165) (t := 170) hx d_Mo_takeRead_162 rfl rfl (nI_leI (by omega) (by omega)) (fun h162 => ?_) (fun h162 => ?_)
                    · refine g_iload (q := 172) hx d_Mo_takeRead_170 rfl rfl ?_
                      refine g_iconst (q := 173) (v := nI 1) hx d_Mo_takeRead_172 rfl (by decide) ?_
                      refine g_iadd (q := 174) hx d_Mo_takeRead_173 rfl (nI_add _ _) ?_
                      refine g_istore (q := 176) (lc' := [(6, _), (9, _), (8, _), (7, _), (5, _), (4, _), (3, _), (0, _), (1, _), (2, _)]) hx d_Mo_takeRead_174 rfl (by decide) rfl ?_
                      refine g_goto (q := 203) hx d_Mo_takeRead_176 rfl ?_
                      refine z_perm (lc' := [(6, .int (nI (1 + w1 + 1))), (5, .int (nI 1)), (4, .int (nI last)), (3, .int (nI pos)), (0, .ref m), (1, .int (nI r)), (2, .int (nI b))]) (fun q hq => by simp only [List.mem_cons, List.not_mem_nil, or_false] at hq ⊢; rcases hq with h | h | h | h | h | h | h <;> simp [h]) ?_
                      exact tail _ 1 (1 + w1 + 1) _ (by omega) hke (by rw [hge1 h134, if_neg (by omega)]) (by omega) k1 k2 s1 d1 c152 (fun q => by have := (hls.2 1 (by omega)).mp q; omega) (fun q => by omega)
                    · refine g_iload (q := 167) hx d_Mo_takeRead_165 rfl rfl ?_
                      refine g_goto (q := 174) hx d_Mo_takeRead_167 rfl ?_
                      refine g_istore (q := 176) (lc' := [(6, _), (9, _), (8, _), (7, _), (5, _), (4, _), (3, _), (0, _), (1, _), (2, _)]) hx d_Mo_takeRead_174 rfl (by decide) rfl ?_
                      refine g_goto (q := 203) hx d_Mo_takeRead_176 rfl ?_
                      refine z_perm (lc' := [(6, .int (nI (1 + w1))), (5, .int (nI 1)), (4, .int (nI last)), (3, .int (nI pos)), (0, .ref m), (1, .int (nI r)), (2, .int (nI b))]) (fun q hq => by simp only [List.mem_cons, List.not_mem_nil, or_false] at hq ⊢; rcases hq with h | h | h | h | h | h | h <;> simp [h]) ?_
                      exact tail _ 1 (1 + w1) _ (by omega) hke (by rw [hge1 h134, if_pos (by omega)]) (by omega) k1 k2 s1 d1 c152 (fun q => by have := (hls.2 1 (by omega)).mp q; omega) (fun q => by omega)
                  · refine g_iconst (q := 138) (v := nI 0) hx d_Mo_takeRead_137 rfl (by decide) ?_
                    refine g_goto (q := 156) hx d_Mo_takeRead_138 rfl ?_
                    refine g_istore (q := 158) (lc' := [(9, _), (8, _), (7, _), (6, _), (5, _), (4, _), (3, _), (0, _), (1, _), (2, _)]) hx d_Mo_takeRead_156 rfl (by decide) rfl ?_
                    refine g_iload (q := 160) hx d_Mo_takeRead_158 rfl rfl ?_
                    refine g_iload (q := 162) hx d_Mo_takeRead_160 rfl rfl ?_
                    refine g_icmp_ge (q := 165) (t := 170) hx d_Mo_takeRead_162 rfl rfl (nI_leI (by omega) (by omega)) (fun h162 => ?_) (fun h162 => ?_)
                    · refine g_iload (q := 172) hx d_Mo_takeRead_170 rfl rfl ?_
                      refine g_iconst (q := 173) (v := nI 1) hx d_Mo_takeRead_172 rfl (by decide) ?_
                      refine g_iadd (q := 174) hx d_Mo_takeRead_173 rfl (nI_add _ _) ?_
                      refine g_istore (q := 176) (lc' := [(6, _), (9, _), (8, _), (7, _), (5, _), (4, _), (3, _), (0, _), (1, _), (2, _)]) hx d_Mo_takeRead_174 rfl (by decide) rfl ?_
                      refine g_goto (q := 203) hx d_Mo_takeRead_176 rfl ?_
                      refine z_perm (lc' := [(6, .int (nI (0 + 1))), (5, .int (nI 1)), (4, .int (nI last)), (3, .int (nI pos)), (0, .ref m), (1, .int (nI r)), (2, .int (nI b))]) (fun q hq => by simp only [List.mem_cons, List.not_mem_nil, or_false] at hq ⊢; rcases hq with h | h | h | h | h | h | h <;> simp [h]) ?_
                      exact tail _ 1 (0 + 1) _ (by omega) hke (by rw [hge0 (by omega), if_neg (by omega)]) (by omega) k1 k2 s1 d1 (c131.mono (by omega)) (fun q => by have := (hls.2 1 (by omega)).mp q; omega) (fun q => by omega)
                    · refine g_iload (q := 167) hx d_Mo_takeRead_165 rfl rfl ?_
                      refine g_goto (q := 174) hx d_Mo_takeRead_167 rfl ?_
                      refine g_istore (q := 176) (lc' := [(6, _), (9, _), (8, _), (7, _), (5, _), (4, _), (3, _), (0, _), (1, _), (2, _)]) hx d_Mo_takeRead_174 rfl (by decide) rfl ?_
                      refine g_goto (q := 203) hx d_Mo_takeRead_176 rfl ?_
                      refine z_perm (lc' := [(6, .int (nI (0))), (5, .int (nI 1)), (4, .int (nI last)), (3, .int (nI pos)), (0, .ref m), (1, .int (nI r)), (2, .int (nI b))]) (fun q hq => by simp only [List.mem_cons, List.not_mem_nil, or_false] at hq ⊢; rcases hq with h | h | h | h | h | h | h <;> simp [h]) ?_
                      exact tail _ 1 (0) _ (by omega) hke (by rw [hge0 (by omega), if_pos (by omega)]) (by omega) k1 k2 s1 d1 (c131.mono (by omega)) (fun q => by have := (hls.2 1 (by omega)).mp q; omega) (fun q => by omega)
                · refine g_iconst (q := 113) (v := nI 0) hx d_Mo_takeRead_112 rfl (by decide) ?_
                  exact g_zret hx d_Mo_takeRead_113 rfl (by decide) hQ ⟨Nat.le_refl _, Nat.le_refl _⟩ ⟨_, rfl, rfl, rfl, k1, k2, Or.inr ⟨rfl, by rw [hT, ← hF, show 13 - es.length = 12 - es.length + 1 by omega, mTk_no (by omega) hls (fun q => q.2.1 ⟨hke, by show len ≤ pos + mPs es; omega⟩)]⟩⟩
            · exact absurd h52 (by omega)
        · refine g_iconst (q := 42) (v := nI 0) hx d_Mo_takeRead_41 rfl (by decide) ?_
          refine g_istore (q := 44) (lc' := [(6, _), (5, _), (4, _), (3, _), (0, _), (1, _), (2, _)]) hx d_Mo_takeRead_42 rfl (by decide) rfl ?_
          refine g_iload (q := 46) hx d_Mo_takeRead_44 rfl rfl ?_
          refine g_if_eq (q := 49) (t := 55) hx d_Mo_takeRead_46 rfl rfl (zb_eq0 (by omega)) (fun h46 => ?_) (fun h46 => ?_)
          · exact absurd h46 (by omega)
          · refine g_iload (q := 51) hx d_Mo_takeRead_49 rfl rfl ?_
            refine g_iconst (q := 52) (v := nI 3) hx d_Mo_takeRead_51 rfl (by decide) ?_
            refine g_icmp_ne (q := 55) (t := 82) hx d_Mo_takeRead_52 rfl rfl (not_congr (nI_eq (by omega) (by omega))) (fun h52 => ?_) (fun h52 => ?_)
            · refine g_iload (q := 84) hx d_Mo_takeRead_82 rfl rfl ?_
              refine g_iconst (q := 85) (v := nI 1) hx d_Mo_takeRead_84 rfl (by decide) ?_
              refine g_icmp_ne (q := 88) (t := 179) hx d_Mo_takeRead_85 rfl rfl (not_congr (nI_eq (by omega) (by omega))) (fun h85 => ?_) (fun h85 => ?_)
              · have hge2 : mGe by_ ref (pos + mPs es) 2 (mGkd by_ last s0).2 = (2 * mBit (mGkd by_ last s0).2 55 + mBit (mGet by_ (mGkd by_ last s0).2 55) (56 + mBit (mGkd by_ last s0).2 55), (mGet by_ (mGet by_ (mGkd by_ last s0).2 55) (56 + mBit (mGkd by_ last s0).2 55))) := by unfold mGe; rw [if_neg (by decide), if_neg (by decide), if_neg (by decide)]
                refine g_aload_n (q := 180) hx d_Mo_takeRead_179 rfl rfl ?_
                refine g_bipush (q := 182) (v := nI 55) hx d_Mo_takeRead_180 rfl (by decide) ?_
                refine g_ci (q := 185) (zrunV hx d_Mo_takeRead_182 lk_Mo_159 rfl rfl hq.g0 rfl rfl (Nat.le_of_ble_eq_true rfl) (by decide) (by omega) (by omega) (c_Mo_get _ E Γ n _ m (55) b3 rl by_ (mGkd by_ last s0).2 (by rw [k1.r]; exact hq0) (hY.kp k1 rfl rfl) d1 c1.go (by omega))) rfl (fun r182 M182 p182 => ?_)
                obtain ⟨rfl, z182, d182⟩ := p182
                have hl182 := mBit_lt (mGkd by_ last s0).2 (55)
                have c182 := (mGd.get hY.2.2.2.1 (p := 55) (c1.mono (j := 22 * (12 - es.length) + K + 2) (by omega)) (by omega))
                replace k1 := k1.tr (z182.mono bL_T (zSb_rf _) (zSb_rf _))
                replace k2 := k2.tr (kS.of z182 rfl rfl rfl rfl rfl rfl)
                replace s1 := s1.kp z182 rfl rfl rfl rfl rfl rfl
                replace d1 := d182
                replace hP := k1.r
                clear z182 d182
                generalize mBit (mGkd by_ last s0).2 (55) = w0 at *
                generalize mGet by_ (mGkd by_ last s0).2 (55) = t0 at *
                refine g_istore (q := 187) (lc' := [(6, _), (5, _), (4, _), (3, _), (0, _), (1, _), (2, _)]) hx d_Mo_takeRead_185 rfl (by decide) rfl ?_
                refine g_iconst (q := 188) (v := nI 2) hx d_Mo_takeRead_187 rfl (by decide) ?_
                refine g_iload (q := 190) hx d_Mo_takeRead_188 rfl rfl ?_
                refine g_imul (q := 191) hx d_Mo_takeRead_190 rfl (pk_mul _ _) ?_
                refine g_aload_n (q := 192) hx d_Mo_takeRead_191 rfl rfl ?_
                refine g_bipush (q := 194) (v := nI 56) hx d_Mo_takeRead_192 rfl (by decide) ?_
                refine g_iload (q := 196) hx d_Mo_takeRead_194 rfl rfl ?_
                refine g_iadd (q := 197) hx d_Mo_takeRead_196 rfl (nI_add _ _) ?_
                refine g_ci (q := 200) (zrunV hx d_Mo_takeRead_197 lk_Mo_159 rfl rfl hq.g0 rfl rfl (Nat.le_of_ble_eq_true rfl) (by decide) (by omega) (by omega) (c_Mo_get _ E Γ n _ m (56 + w0) b3 rl by_ t0 (by rw [k1.r]; exact hq0) (hY.kp k1 rfl rfl) d1 c182.go (by omega))) rfl (fun r197 M197 p197 => ?_)
                obtain ⟨rfl, z197, d197⟩ := p197
                have hl197 := mBit_lt t0 (56 + w0)
                have c197 := (mGd.get hY.2.2.2.1 (p := 56 + w0) (c182.mono (j := 22 * (12 - es.length) + K + 1) (by omega)) (by omega))
                replace k1 := k1.tr (z197.mono bL_T (zSb_rf _) (zSb_rf _))
                replace k2 := k2.tr (kS.of z197 rfl rfl rfl rfl rfl rfl)
                replace s1 := s1.kp z197 rfl rfl rfl rfl rfl rfl
                replace d1 := d197
                replace hP := k1.r
                clear z197 d197
                generalize mBit t0 (56 + w0) = w1 at *
                generalize mGet by_ t0 (56 + w0) = t1 at *
                refine g_iadd (q := 201) hx d_Mo_takeRead_200 rfl (nI_add _ _) ?_
                refine g_istore (q := 203) (lc' := [(6, _), (5, _), (4, _), (3, _), (0, _), (1, _), (2, _)]) hx d_Mo_takeRead_201 rfl (by decide) rfl ?_
                refine z_perm (lc' := [(6, .int (nI (2 * w0 + w1))), (5, .int (nI 2)), (4, .int (nI last)), (3, .int (nI pos)), (0, .ref m), (1, .int (nI r)), (2, .int (nI b))]) (fun q hq => by simp only [List.mem_cons, List.not_mem_nil, or_false] at hq ⊢; rcases hq with h | h | h | h | h | h | h <;> simp [h]) ?_
                exact tail _ 2 (2 * w0 + w1) _ (by omega) hke hge2 (by omega) k1 k2 s1 d1 c197 (fun q => by have := (hls.2 2 (by omega)).mp q; omega) (fun q => by omega)
              · exact absurd h85 (by omega)
            · exact absurd h52 (by omega)
        · refine g_iconst (q := 42) (v := nI 0) hx d_Mo_takeRead_41 rfl (by decide) ?_
          refine g_istore (q := 44) (lc' := [(6, _), (5, _), (4, _), (3, _), (0, _), (1, _), (2, _)]) hx d_Mo_takeRead_42 rfl (by decide) rfl ?_
          refine g_iload (q := 46) hx d_Mo_takeRead_44 rfl rfl ?_
          refine g_if_eq (q := 49) (t := 55) hx d_Mo_takeRead_46 rfl rfl (zb_eq0 (by omega)) (fun h46 => ?_) (fun h46 => ?_)
          · exact absurd h46 (by omega)
          · refine g_iload (q := 51) hx d_Mo_takeRead_49 rfl rfl ?_
            refine g_iconst (q := 52) (v := nI 3) hx d_Mo_takeRead_51 rfl (by decide) ?_
            refine g_icmp_ne (q := 55) (t := 82) hx d_Mo_takeRead_52 rfl rfl (not_congr (nI_eq (by omega) (by omega))) (fun h52 => ?_) (fun h52 => ?_)
            · exact absurd h52 (by omega)
            · refine g_aload_n (q := 56) hx d_Mo_takeRead_55 rfl rfl ?_
              refine g_iload (q := 58) hx d_Mo_takeRead_56 rfl rfl ?_
              refine g_if_ne (q := 61) (t := 65) hx d_Mo_takeRead_58 rfl rfl (zb_ne0 (by omega)) (fun h58 => ?_) (fun h58 => ?_)
              · refine g_iconst (q := 66) (v := nI 2) hx d_Mo_takeRead_65 rfl (by decide) ?_
                refine g_ci (q := 69) (zrunV hx d_Mo_takeRead_66 lk_Mo_162 rfl rfl hq.g0 rfl rfl (Nat.le_of_ble_eq_true rfl) (by decide) (by omega) (by omega) (c_Mo_getN _ E Γ n _ m 2 (22 * (12 - es.length) + K) b3 rl by_ (mGkd by_ last s0).2 (by rw [k1.r]; exact hq0) (hY.kp k1 rfl rfl) d1 (by omega) (c1.mono (by omega)))) rfl (fun r66 M66 p66 => ?_)
                obtain ⟨rfl, z66, d66, c66⟩ := p66
                have hgl := mGn_lt by_ 2 (mGkd by_ last s0).2
                replace k1 := k1.tr (z66.mono bL_T (zSb_rf _) (zSb_rf _))
                replace k2 := k2.tr (kS.of z66 rfl rfl rfl rfl rfl rfl)
                replace s1 := s1.kp z66 rfl rfl rfl rfl rfl rfl
                replace d1 := d66
                replace hP := k1.r
                refine g_iconst (q := 70) (v := nI 1) hx d_Mo_takeRead_69 rfl (by decide) ?_
                refine g_iadd (q := 71) hx d_Mo_takeRead_70 rfl (nI_add _ _) ?_
                refine g_istore (q := 73) (lc' := [(6, _), (5, _), (4, _), (3, _), (0, _), (1, _), (2, _)]) hx d_Mo_takeRead_71 rfl (by decide) rfl ?_
                refine g_iload (q := 75) hx d_Mo_takeRead_73 rfl rfl ?_
                refine g_iload (q := 77) hx d_Mo_takeRead_75 rfl rfl ?_
                refine g_icmp_ne (q := 80) (t := 203) hx d_Mo_takeRead_77 rfl rfl (not_congr (nI_eq (by omega) (by omega))) (fun h77 => ?_) (fun h77 => ?_)
                · refine z_perm (lc' := [(6, .int (nI ((mGn by_ 2 (mGkd by_ last s0).2).1 + 1))), (5, .int (nI 3)), (4, .int (nI last)), (3, .int (nI pos)), (0, .ref m), (1, .int (nI r)), (2, .int (nI b))]) (fun q hq => by simp only [List.mem_cons, List.not_mem_nil, or_false] at hq ⊢; rcases hq with h | h | h | h | h | h | h <;> simp [h]) ?_
                  exact tail _ 3 ((mGn by_ 2 (mGkd by_ last s0).2).1 + 1) _ (by omega) hke (by unfold mGe; simp) (by omega) k1 k2 s1 d1 c66 (fun q => by have := (hls.2 3 (by omega)).mp q; omega) (fun q => by omega)
                · refine g_iconst (q := 81) (v := nI 0) hx d_Mo_takeRead_80 rfl (by decide) ?_
                  exact g_zret hx d_Mo_takeRead_81 rfl (by decide) hQ ⟨Nat.le_refl _, Nat.le_refl _⟩ ⟨_, rfl, rfl, rfl, k1, k2, Or.inr ⟨rfl, by rw [hT, ← hF, show 13 - es.length = 12 - es.length + 1 by omega, mTk_no (by omega) hls (fun q => q.1 ((hls.2 _ (by omega)).mpr ⟨by omega, by omega⟩))]⟩⟩
              · exact absurd h58 (by omega)
    exact loop 0 M4 [] 4 _ rfl (k1.tr (z5.mono bL_T (zSb_rf _) (zSb_rf _))) (k2.tr (kS.of z5 rfl rfl rfl rfl rfl rfl)) (s4.kp z5 rfl rfl rfl rfl rfl rfl) d5 (c5.mono (by show 22 * (12 - 0) + 18 + K ≤ K + 282; omega)) mLs_0 ⟨by dsimp only; omega, trivial, Nat.zero_le _, Nat.zero_le _⟩ rfl
  · refine g_iconst (q := 17) (v := nI 0) hx d_Mo_takeRead_16 rfl (by decide) ?_
    exact g_zret hx d_Mo_takeRead_17 rfl (by decide) hQ ⟨Nat.le_refl _, Nat.le_refl _⟩ ⟨_, rfl, rfl, rfl, k1, k2, Or.inr ⟨rfl, by unfold mTr; rw [if_pos (by omega)]⟩⟩
set_option maxHeartbeats 4000000 in
set_option maxRecDepth 100000 in
theorem c_Mo_takeReadB (l : Launch) (E : zE) (Γ : zG) (n : Nat) (M : zM) (m : Nat) (r b len : Nat) (ref : Nat → Nat) (b3 rl : Nat) (by_ : Nat → Nat) (s : mDe) (hq : qX Γ M.2.2 m) (hY : qY M m b3 rl by_) (hD : pD M m b3 s) (hR : qR M m len ref) (hr : r < 31) (hb : b ≤ 255) (h0 : mBd 0 s) :
    zCt l E Y_Mo_takeRead 3 (0, 0) [.ref m, .int (nI r), .int (nI b)] Γ n M (zPi Γ n (fun v M' => kF bTA bGI bGL m M M' ∧ kS r m M M' ∧ v = nI 0)) := by
  refine zCt.of [(0, .ref m), (1, .int (nI r)), (2, .int (nI b))] (by decide) (Nat.le_of_ble_eq_true rfl) rfl (fun f hfl hx hQ => ?_)
  have hq0 := hq
  have hP : M.2.2 = M.2.2 := rfl
  have hm0 := hq.m0
  have hl160 := hR.2.2.1
  refine g_iload_n (q := 1) hx d_Mo_takeRead_0 rfl rfl ?_
  refine g_aload_n (q := 2) hx d_Mo_takeRead_1 rfl rfl ?_
  refine g_iconst (q := 3) (v := nI 0) hx d_Mo_takeRead_2 rfl (by decide) ?_
  refine g_ci (q := 6) (zrunV hx d_Mo_takeRead_3 lk_Mo_162 rfl rfl hq.g0 rfl rfl (Nat.le_of_ble_eq_true rfl) (by decide) (by omega) (by omega) (c_Mo_getB _ E Γ n _ m b3 rl by_ s hq0 hY hD h0)) rfl (fun r3 M2 p3 => ?_)
  obtain ⟨rfl, z3⟩ := p3
  replace hP := z3.r
  refine g_iadd (q := 7) hx d_Mo_takeRead_6 rfl (nI_add _ _) ?_
  refine g_istore_n (q := 8) (lc' := [(3, _), (0, _), (1, _), (2, _)]) hx d_Mo_takeRead_7 rfl (by decide) rfl ?_
  refine g_iload_n (q := 9) hx d_Mo_takeRead_8 rfl rfl ?_
  refine g_aload_n (q := 10) hx d_Mo_takeRead_9 rfl rfl ?_
  refine g_geti (q := 13) hx d_Mo_takeRead_10 rfl fl_Mo_57 hq.g0 ((z3.i 1 rfl).trans hR.1) ?_
  refine g_icmp_le (q := 16) (t := 18) hx d_Mo_takeRead_13 rfl rfl (nI_leI (by omega) (by omega)) (fun h13 => ?_) (fun h13 => ?_)
  · exact absurd h13 (by omega)
  · refine g_iconst (q := 17) (v := nI 0) hx d_Mo_takeRead_16 rfl (by decide) ?_
    exact g_zret hx d_Mo_takeRead_17 rfl (by decide) hQ ⟨Nat.le_refl _, Nat.le_refl _⟩ ⟨_, rfl, rfl, rfl, z3.mono bL_T (zSb_rf _) (zSb_rf _), kS.of z3 rfl rfl rfl rfl rfl rfl, rfl⟩
