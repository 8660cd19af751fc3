def bPA : Nat → Bool := fun i => i == 8 || i == 9 || i == 10 || i == 11 || i == 12
def bPI : Nat → Bool := fun i => i == 0 || i == 12 || i == 17 || i == 22
theorem bW_P : zSb bWA bPA := fun c h => by simp [bWA, bPA] at h ⊢; omega
theorem bWI_P : zSb bWI bPI := fun c h => by simp [bWI, bPI] at h ⊢; omega
set_option maxHeartbeats 4000000 in
set_option maxRecDepth 100000 in
theorem c_Mo_pack (l : Launch) (E : zE) (Γ : zG) (n : Nat) (M : zM) (m : Nat) (c len : Nat) (ref : Nat → Nat) (fs : Nat → mRd) (hq : qX Γ M.2.2 m) (hc : zi M m 3 = nI c) (hc24 : c ≤ 24) (hR : qR M m len ref) (hS : ∀ i, i < c → qS M m i (fs i)) (hok : ∀ i, i < c → mOk ref len (fs i)) :
    zCt l E Y_Mo_pack 5 (0, 0) [.ref m] Γ n M (zPi Γ n (fun v M' => v = nI (mPk ref (fun j => fs (mSx (fun i => (fs i).1) c j)) c ((c + 2) / 3)).1 ∧ kF bPA bPI bCL m M M' ∧ qA M' m (mPk ref (fun j => fs (mSx (fun i => (fs i).1) c j)) c ((c + 2) / 3)).1 (mPk ref (fun j => fs (mSx (fun i => (fs i).1) c j)) c ((c + 2) / 3)).2)) := by
  refine zCt.of [(0, .ref m)] (by decide) (Nat.le_of_ble_eq_true rfl) rfl (fun f hfl hx hQ => ?_)
  have hq0 := hq
  have hP : M.2.2 = M.2.2 := rfl
  have hm0 := hq.m0
  have hl160 := hR.2.2.1
  have hr4 := hR.2.2.2
  have hp160 : ∀ i, i < c → (fs i).1 < 100000 := fun i hi => by have := mPs_fit (hok i hi); omega
  have part3 : ∀ M1, kF bPA bPI bCL m M M1 → (∀ j, j < c → zi M1 (m + 12) j = nI (mSx (fun i => (fs i).1) c j)) → zGo f E Γ n (0, 0) M1 76 [(1, .int (nI c)), (0, .ref m)] [] := by
    intro M0 j1 hor0
    have loop3 : ∀ (k : Nat) (M1 : zM), k ≤ (c + 2) / 3 → kF bPA bPI bCL m M M1 → qA M1 m (mPk ref (fun j => fs (mSx (fun i => (fs i).1) c j)) c k).1 (mPk ref (fun j => fs (mSx (fun i => (fs i).1) c j)) c k).2 → (mPk ref (fun j => fs (mSx (fun i => (fs i).1) c j)) c k).1 ≤ 260 * k → (∀ j, j < c → zi M1 (m + 12) j = nI (mSx (fun i => (fs i).1) c j)) → zGo f E Γ n (0, 0) M1 83 [(1, .int (nI (3 * k))), (0, .ref m)] [] := by
      refine z_lp (fun k => c - 3 * k) _ ?_
      intro k M1 ih hk k1 j2 j3 hor
      replace hP := k1.r
      refine g_iload_n (q := 84) hx d_Mo_pack_83 rfl rfl ?_
      refine g_aload_n (q := 85) hx d_Mo_pack_84 rfl rfl ?_
      refine g_geti (q := 88) hx d_Mo_pack_85 rfl fl_Mo_50 hq.g0 ((k1.i 3 rfl).trans hc) ?_
      refine g_icmp_ge (q := 91) (t := 163) hx d_Mo_pack_88 rfl rfl (nI_leI (by omega) (by omega)) (fun h88 => ?_) (fun h88 => ?_)
      · obtain rfl : k = (c + 2) / 3 := (by omega)
        refine g_aload_n (q := 164) hx d_Mo_pack_163 rfl rfl ?_
        refine g_geti (q := 167) hx d_Mo_pack_164 rfl fl_Mo_136 hq.g0 j2.1 ?_
        exact g_iret hx d_Mo_pack_167 rfl hQ ⟨Nat.le_refl _, Nat.le_refl _⟩ ⟨_, rfl, rfl, rfl, rfl, k1, j2⟩
      · have hm1 : 1 ≤ min 3 (c - 3 * k) ∧ min 3 (c - 3 * k) ≤ 3 ∧ 3 * k + min 3 (c - 3 * k) ≤ c := by omega
        have hgl : (mG3 (fun j => fs (mSx (fun i => (fs i).1) c j)) c k).length = min 3 (c - 3 * k) := mGrp_len _ _ _
        have hga : ∀ i, i < min 3 (c - 3 * k) → mAt (mG3 (fun j => fs (mSx (fun i => (fs i).1) c j)) c k) i = fs (mSx (fun i => (fs i).1) c (3 * k + i)) := fun i hi => mGrp_at hi
        have hokg : ∀ r ∈ (mG3 (fun j => fs (mSx (fun i => (fs i).1) c j)) c k), mOk ref len r := fun r hr => by
          obtain ⟨i, hi, rfl⟩ := mAt_mem hr
          rw [hgl] at hi
          rw [hga i hi]
          exact hok _ (mSx_lt _ _ _ (by omega))
        have hble := mBl_le hr4 hl160 hokg (by omega)
        have harch : ∀ j, (mPk ref (fun j => fs (mSx (fun i => (fs i).1) c j)) c (k + 1)).2 j < 256 := fun j => by
          show (if _ then _ else _) < 256
          split
          · exact j2.2.2.2 j
          · unfold mBk
            split
            · exact mBlk_lt hr4 hl160 hokg (by omega) (by assumption)
            · omega
        have part2 : ∀ M2, kF bPA bPI bCL m M M2 → (∀ j, j < c → zi M2 (m + 12) j = nI (mSx (fun i => (fs i).1) c j)) → zi M2 m 12 = nI (mPk ref (fun j => fs (mSx (fun i => (fs i).1) c j)) c k).1 → (∀ q, q < (mPk ref (fun j => fs (mSx (fun i => (fs i).1) c j)) c k).1 → zi M2 (m + 8) q = nI ((mPk ref (fun j => fs (mSx (fun i => (fs i).1) c j)) c k).2 q)) → pB M2 m (mBl ref (mG3 (fun j => fs (mSx (fun i => (fs i).1) c j)) c k)) (mBlk ref (mG3 (fun j => fs (mSx (fun i => (fs i).1) c j)) c k)) → zGo f E Γ n (0, 0) M2 116 [(1, .int (nI (3 * k))), (0, .ref m)] [] := by
          intro M2 s1 so s2 s3 s4
          have loop4 : ∀ (j : Nat) (M2 : zM), j ≤ mBl ref (mG3 (fun j => fs (mSx (fun i => (fs i).1) c j)) c k) → kF bPA bPI bCL m M M2 → (∀ j, j < c → zi M2 (m + 12) j = nI (mSx (fun i => (fs i).1) c j)) → zi M2 m 12 = nI ((mPk ref (fun j => fs (mSx (fun i => (fs i).1) c j)) c k).1 + j) → (∀ q, q < (mPk ref (fun j => fs (mSx (fun i => (fs i).1) c j)) c k).1 + j → zi M2 (m + 8) q = nI ((mPk ref (fun j => fs (mSx (fun i => (fs i).1) c j)) c (k + 1)).2 q)) → zi M2 m 22 = nI (mBl ref (mG3 (fun j => fs (mSx (fun i => (fs i).1) c j)) c k)) → (∀ q, q < mBl ref (mG3 (fun j => fs (mSx (fun i => (fs i).1) c j)) c k) → zi M2 (m + 11) q = nI (mBlk ref (mG3 (fun j => fs (mSx (fun i => (fs i).1) c j)) c k) q)) → zGo f E Γ n (0, 0) M2 118 [(2, .int (nI j)), (1, .int (nI (3 * k))), (0, .ref m)] [] := by
            refine z_lp (fun j => mBl ref (mG3 (fun j => fs (mSx (fun i => (fs i).1) c j)) c k) - j) _ ?_
            intro j M2 ih4 hj t1 to t2 t3 t4 t5
            replace hP := t1.r
            refine g_iload_n (q := 119) hx d_Mo_pack_118 rfl rfl ?_
            refine g_aload_n (q := 120) hx d_Mo_pack_119 rfl rfl ?_
            refine g_geti (q := 123) hx d_Mo_pack_120 rfl fl_Mo_119 hq.g0 t4 ?_
            refine g_icmp_ge (q := 126) (t := 157) hx d_Mo_pack_123 rfl rfl (nI_leI (by omega) (by omega)) (fun h123 => ?_) (fun h123 => ?_)
            · refine g_iinc (q := 160) (lc' := [(1, _), (2, _), (0, _)]) hx d_Mo_pack_157 rfl rfl (z_inc3 _) (by decide) rfl ?_
              refine g_goto (q := 83) hx d_Mo_pack_160 rfl ?_
              obtain rfl : j = mBl ref (mG3 (fun j => fs (mSx (fun i => (fs i).1) c j)) c k) := (by omega)
              refine z_perm (lc' := [(1, .int (nI (3 * k + 3))), (0, .ref m)]) (fun q hq => by simp only [List.mem_cons, List.not_mem_nil, or_false] at hq ⊢; rcases hq with h | h <;> simp [h]) ?_
              exact ih (k + 1) M2 (by show c - 3 * (k + 1) < c - 3 * k; omega) (by omega) t1 ⟨t2, t3, by show (mPk ref (fun j => fs (mSx (fun i => (fs i).1) c j)) c k).1 + mBl ref (mG3 (fun j => fs (mSx (fun i => (fs i).1) c j)) c k) ≤ 2080; omega, harch⟩ (by show (mPk ref (fun j => fs (mSx (fun i => (fs i).1) c j)) c k).1 + mBl ref (mG3 (fun j => fs (mSx (fun i => (fs i).1) c j)) c k) ≤ 260 * (k + 1); omega) to
            · refine g_aload_n (q := 127) hx d_Mo_pack_126 rfl rfl ?_
              refine g_geta (q := 130) hx d_Mo_pack_127 rfl fl_Mo_31 hq.g0 (hq.p8 hP) (by first | exact Nat.succ_ne_zero _ | omega) ?_
              refine g_aload_n (q := 131) hx d_Mo_pack_130 rfl rfl ?_
              refine g_geti (q := 134) hx d_Mo_pack_131 rfl fl_Mo_136 hq.g0 t2 ?_
              refine g_aload_n (q := 135) hx d_Mo_pack_134 rfl rfl ?_
              refine g_geta (q := 138) hx d_Mo_pack_135 rfl fl_Mo_40 hq.g0 (hq.p11 hP) (by first | exact Nat.succ_ne_zero _ | omega) ?_
              refine g_iload_n (q := 139) hx d_Mo_pack_138 rfl rfl ?_
              refine g_iald (q := 140) hx d_Mo_pack_139 rfl hq.g11 rfl (by omega) (by decide) (t5 j (by omega)) ?_
              refine g_iast (q := 141) hx d_Mo_pack_140 rfl hq.g8 rfl (by omega) (by decide) ?_
              refine g_aload_n (q := 142) hx d_Mo_pack_141 rfl rfl ?_
              refine g_dup (q := 143) hx d_Mo_pack_142 rfl rfl ?_
              refine g_geti (q := 146) hx d_Mo_pack_143 rfl fl_Mo_136 hq.g0 ((zi_a (by omega)).trans t2) ?_
              refine g_iconst (q := 147) (v := nI 1) hx d_Mo_pack_146 rfl (by decide) ?_
              refine g_iadd (q := 148) hx d_Mo_pack_147 rfl (nI_add _ _) ?_
              refine g_puti (q := 151) hx d_Mo_pack_148 rfl fl_Mo_136 nf_7_12 hq.g0 ?_
              refine g_iinc (q := 154) (lc' := [(2, _), (1, _), (0, _)]) hx d_Mo_pack_151 rfl rfl (z_inc _) (by decide) rfl ?_
              refine g_goto (q := 118) hx d_Mo_pack_154 rfl ?_
              refine ih4 (j + 1) _ (by omega) (by omega) ((t1.sa rfl (by decide) (by decide)).si rfl) (fun q hq => by rw [zi_a (by omega), zi_a (by omega)]; exact to q hq) (zi_s _ _ _ _) (fun q hq => ?_) (by rw [zi_k (by decide), zi_a (by omega)]; exact t4) (fun q hq => by rw [zi_a (by omega), zi_a (by omega)]; exact t5 q hq)
              rw [zi_a (by omega)]
              by_cases c9 : q = (mPk ref (fun j => fs (mSx (fun i => (fs i).1) c j)) c k).1 + j
              · subst c9
                rw [zi_s]
                show _ = nI (if _ then _ else _)
                rw [if_neg (by omega), Nat.add_sub_cancel_left]
                unfold mBk
                rw [if_pos (by omega)]
              · rw [zi_k c9]; exact t3 q (by omega)
          replace hP := s1.r
          refine g_iconst (q := 117) (v := nI 0) hx d_Mo_pack_116 rfl (by decide) ?_
          refine g_istore_n (q := 118) (lc' := [(2, _), (1, _), (0, _)]) hx d_Mo_pack_117 rfl (by decide) rfl ?_
          exact loop4 0 M2 (Nat.zero_le _) s1 so s2 (fun q hq => (s3 q hq).trans (congrArg nI (by show _ = if _ then _ else _; rw [if_pos (by omega)]))) s4.1 s4.2
        refine g_aload_n (q := 92) hx d_Mo_pack_91 rfl rfl ?_
        refine g_iload_n (q := 93) hx d_Mo_pack_92 rfl rfl ?_
        refine g_aload_n (q := 94) hx d_Mo_pack_93 rfl rfl ?_
        refine g_geti (q := 97) hx d_Mo_pack_94 rfl fl_Mo_50 hq.g0 ((k1.i 3 rfl).trans hc) ?_
        refine g_iload_n (q := 98) hx d_Mo_pack_97 rfl rfl ?_
        refine g_isub (q := 99) hx d_Mo_pack_98 rfl (pk_sub (by omega)) ?_
        refine g_iconst (q := 100) (v := nI 3) hx d_Mo_pack_99 rfl (by decide) ?_
        refine g_icmp_ge (q := 103) (t := 112) hx d_Mo_pack_100 rfl rfl (nI_leI (by omega) (by omega)) (fun h100 => ?_) (fun h100 => ?_)
        · refine g_iconst (q := 113) (v := nI 3) hx d_Mo_pack_112 rfl (by decide) ?_
          have hgl3 : (mG3 (fun j => fs (mSx (fun i => (fs i).1) c j)) c k).length = 3 := hgl.trans (by omega)
          rw [show nI 3 = nI (mG3 (fun j => fs (mSx (fun i => (fs i).1) c j)) c k).length from congrArg nI hgl3.symm]
          refine g_cv (q := 116) (zrunV hx d_Mo_pack_113 lk_Mo_139 rfl rfl hq.g0 rfl rfl (Nat.le_of_ble_eq_true rfl) (by decide) (by omega) (by omega) (c_Mo_write _ E Γ n _ m (3 * k) len ref (mG3 (fun j => fs (mSx (fun i => (fs i).1) c j)) c k) (fun i => mSx (fun i => (fs i).1) c (3 * k + i)) (by rw [k1.r]; exact hq0) (hR.kp k1 rfl rfl) (by omega) (by omega) (by omega) (fun i hi => ⟨hor (3 * k + i) (by omega), by have := mSx_lt (fun i => (fs i).1) c (3 * k + i) (by omega); omega⟩) (fun i hi => by
              rw [hga i (by omega)]
              exact (hS _ (mSx_lt (fun i => (fs i).1) c (3 * k + i) (by omega))).kp k1 rfl rfl rfl rfl rfl rfl) (fun i hi => by
              rw [hga i (by omega)]
              exact hok _ (mSx_lt (fun i => (fs i).1) c (3 * k + i) (by omega))) (fun i hi => by
              rw [hga i (by omega), hga (i + 1) (by omega)]
              exact mSx_up (fun i => (fs i).1) c (3 * k + i) (by omega)))) rfl (fun M2 p113 => ?_)
          obtain ⟨z2, b2⟩ := p113
          exact part2 M2 (k1.tr (z2.mono bW_P bWI_P (zSb_rf _))) (fun j hj => (z2.a 12 (by decide) rfl j).trans (hor j hj)) ((z2.i 12 rfl).trans j2.1) (fun q hq => (z2.a 8 (by decide) rfl q).trans (j2.2.1 q hq)) b2
        · refine g_aload_n (q := 104) hx d_Mo_pack_103 rfl rfl ?_
          refine g_geti (q := 107) hx d_Mo_pack_104 rfl fl_Mo_50 hq.g0 ((k1.i 3 rfl).trans hc) ?_
          refine g_iload_n (q := 108) hx d_Mo_pack_107 rfl rfl ?_
          refine g_isub (q := 109) hx d_Mo_pack_108 rfl (pk_sub (by omega)) ?_
          refine g_goto (q := 113) hx d_Mo_pack_109 rfl ?_
          have hgl3 : (mG3 (fun j => fs (mSx (fun i => (fs i).1) c j)) c k).length = (c - 3 * k) := hgl.trans (by omega)
          rw [show nI (c - 3 * k) = nI (mG3 (fun j => fs (mSx (fun i => (fs i).1) c j)) c k).length from congrArg nI hgl3.symm]
          refine g_cv (q := 116) (zrunV hx d_Mo_pack_113 lk_Mo_139 rfl rfl hq.g0 rfl rfl (Nat.le_of_ble_eq_true rfl) (by decide) (by omega) (by omega) (c_Mo_write _ E Γ n _ m (3 * k) len ref (mG3 (fun j => fs (mSx (fun i => (fs i).1) c j)) c k) (fun i => mSx (fun i => (fs i).1) c (3 * k + i)) (by rw [k1.r]; exact hq0) (hR.kp k1 rfl rfl) (by omega) (by omega) (by omega) (fun i hi => ⟨hor (3 * k + i) (by omega), by have := mSx_lt (fun i => (fs i).1) c (3 * k + i) (by omega); omega⟩) (fun i hi => by
              rw [hga i (by omega)]
              exact (hS _ (mSx_lt (fun i => (fs i).1) c (3 * k + i) (by omega))).kp k1 rfl rfl rfl rfl rfl rfl) (fun i hi => by
              rw [hga i (by omega)]
              exact hok _ (mSx_lt (fun i => (fs i).1) c (3 * k + i) (by omega))) (fun i hi => by
              rw [hga i (by omega), hga (i + 1) (by omega)]
              exact mSx_up (fun i => (fs i).1) c (3 * k + i) (by omega)))) rfl (fun M2 p113 => ?_)
          obtain ⟨z2, b2⟩ := p113
          exact part2 M2 (k1.tr (z2.mono bW_P bWI_P (zSb_rf _))) (fun j hj => (z2.a 12 (by decide) rfl j).trans (hor j hj)) ((z2.i 12 rfl).trans j2.1) (fun q hq => (z2.a 8 (by decide) rfl q).trans (j2.2.1 q hq)) b2
    replace hP := j1.r
    refine g_aload_n (q := 77) hx d_Mo_pack_76 rfl rfl ?_
    refine g_iconst (q := 78) (v := nI 0) hx d_Mo_pack_77 rfl (by decide) ?_
    refine g_puti (q := 81) hx d_Mo_pack_78 rfl fl_Mo_136 nf_7_12 hq.g0 ?_
    refine g_iconst (q := 82) (v := nI 0) hx d_Mo_pack_81 rfl (by decide) ?_
    refine g_istore_n (q := 83) (lc' := [(1, _), (0, _)]) hx d_Mo_pack_82 rfl (by decide) rfl ?_
    exact loop3 0 _ (Nat.zero_le _) (j1.si rfl) ⟨zi_s _ _ _ _, fun j hj => absurd hj (Nat.not_lt_zero _), Nat.zero_le _, fun j => by show 0 < 256; omega⟩ (Nat.le_refl _) (fun j hj => (zi_a (by omega)).trans (hor0 j hj))
  have loop : ∀ (i : Nat) (M1 : zM), i ≤ c → kF bPA bPI bCL m M M1 → (∀ j, j < i → zi M1 (m + 12) j = nI (mSx (fun i => (fs i).1) i j)) → zGo f E Γ n (0, 0) M1 7 [(1, .int (nI i)), (0, .ref m)] [] := by
    refine z_lp (fun i => c - i) _ ?_
    intro i M1 ih hi j1 j2
    replace hP := j1.r
    refine g_iload_n (q := 8) hx d_Mo_pack_7 rfl rfl ?_
    refine g_aload_n (q := 9) hx d_Mo_pack_8 rfl rfl ?_
    refine g_geti (q := 12) hx d_Mo_pack_9 rfl fl_Mo_50 hq.g0 ((j1.i 3 rfl).trans hc) ?_
    refine g_icmp_ge (q := 15) (t := 76) hx d_Mo_pack_12 rfl rfl (nI_leI (by omega) (by omega)) (fun h12 => ?_) (fun h12 => ?_)
    · obtain rfl : i = c := (by omega)
      exact part3 M1 j1 j2
    · refine g_iload_n (q := 16) hx d_Mo_pack_15 rfl rfl ?_
      refine g_istore_n (q := 17) (lc' := [(2, _), (1, _), (0, _)]) hx d_Mo_pack_16 rfl (by decide) rfl ?_
      have inner : ∀ (p : Nat) (M2 : zM), p ≤ i → kF bPA bPI bCL m M1 M2 → (∀ j, j < p → zi M2 (m + 12) j = nI (mSx (fun i => (fs i).1) i j)) → (∀ j, p < j → j ≤ i → zi M2 (m + 12) j = nI (mSx (fun i => (fs i).1) i (j - 1))) → mSlot (fun k => (fs (mSx (fun i => (fs i).1) i k)).1) (fs i).1 p = mSlot (fun k => (fs (mSx (fun i => (fs i).1) i k)).1) (fs i).1 i → zGo f E Γ n (0, 0) M2 17 [(2, .int (nI p)), (1, .int (nI i)), (0, .ref m)] [] := by
        refine z_lp (fun p => p) _ ?_
        intro p M2 ih2 hp k1 e1 e2 e3
        have j0 := j1
        replace hP := (j1.tr k1).r
        refine g_iload_n (q := 18) hx d_Mo_pack_17 rfl rfl ?_
        refine g_if_le (q := 21) (t := 63) hx d_Mo_pack_18 rfl rfl (zb_le0 (by omega)) (fun h18 => ?_) (fun h18 => ?_)
        · obtain rfl : p = 0 := (by omega)
          have e4 : mSlot (fun k => (fs (mSx (fun i => (fs i).1) i k)).1) (fs i).1 i = 0 := e3.symm
          refine g_aload_n (q := 64) hx d_Mo_pack_63 rfl rfl ?_
          refine g_geta (q := 67) hx d_Mo_pack_64 rfl fl_Mo_43 hq.g0 (hq.p12 hP) (by first | exact Nat.succ_ne_zero _ | omega) ?_
          refine g_iload_n (q := 68) hx d_Mo_pack_67 rfl rfl ?_
          refine g_iload_n (q := 69) hx d_Mo_pack_68 rfl rfl ?_
          refine g_iast (q := 70) hx d_Mo_pack_69 rfl hq.g12 rfl (by omega) (by decide) ?_
          refine g_iinc (q := 73) (lc' := [(1, _), (2, _), (0, _)]) hx d_Mo_pack_70 rfl rfl (z_inc _) (by decide) rfl ?_
          refine g_goto (q := 7) hx d_Mo_pack_73 rfl ?_
          refine z_perm (lc' := [(1, .int (nI (i + 1))), (0, .ref m)]) (fun q hq => by simp only [List.mem_cons, List.not_mem_nil, or_false] at hq ⊢; rcases hq with h | h <;> simp [h]) ?_
          refine ih (i + 1) _ (by show c - (i + 1) < c - i; omega) (by omega) ((j1.tr k1).sa rfl (by decide) (by decide)) (fun j hj => ?_)
          simp only [mSx]
          rw [e4]
          unfold mIn
          by_cases c1 : j < 0
          · rw [if_pos c1, zi_k (by omega)]; exact e1 j c1
          · rw [if_neg c1]
            by_cases c2 : j = 0
            · rw [if_pos c2, c2, zi_s]
            · rw [if_neg c2, if_pos (by omega), zi_k c2]; exact e2 j (by omega) (by omega)
        · obtain ⟨p, rfl⟩ : ∃ q, p = q + 1 := ⟨p - 1, by omega⟩
          have hlt := mSx_lt (fun i => (fs i).1) i p (by omega)
          have hpp := ((j0.tr k1).a 2 (by decide) rfl (mSx (fun i => (fs i).1) i p)).trans (hS (mSx (fun i => (fs i).1) i p) (by omega)).1
          have hpi := ((j0.tr k1).a 2 (by decide) rfl i).trans (hS i (by omega)).1
          have hp9 := hp160 (mSx (fun i => (fs i).1) i p) (by omega)
          have hpi9 := hp160 i (by omega)
          refine g_aload_n (q := 22) hx d_Mo_pack_21 rfl rfl ?_
          refine g_geta (q := 25) hx d_Mo_pack_22 rfl fl_Mo_13 hq.g0 (hq.p2 hP) (by first | exact Nat.succ_ne_zero _ | omega) ?_
          refine g_aload_n (q := 26) hx d_Mo_pack_25 rfl rfl ?_
          refine g_geta (q := 29) hx d_Mo_pack_26 rfl fl_Mo_43 hq.g0 (hq.p12 hP) (by first | exact Nat.succ_ne_zero _ | omega) ?_
          refine g_iload_n (q := 30) hx d_Mo_pack_29 rfl rfl ?_
          refine g_iconst (q := 31) (v := nI 1) hx d_Mo_pack_30 rfl (by decide) ?_
          refine g_isub (q := 32) hx d_Mo_pack_31 rfl (pk_sub (by omega)) ?_
          refine g_iald (q := 33) hx d_Mo_pack_32 rfl hq.g12 rfl (by omega) (by decide) (e1 p (by omega)) ?_
          refine g_iald (q := 34) hx d_Mo_pack_33 rfl hq.g2 rfl (by omega) (by decide) hpp ?_
          refine g_aload_n (q := 35) hx d_Mo_pack_34 rfl rfl ?_
          refine g_geta (q := 38) hx d_Mo_pack_35 rfl fl_Mo_13 hq.g0 (hq.p2 hP) (by first | exact Nat.succ_ne_zero _ | omega) ?_
          refine g_iload_n (q := 39) hx d_Mo_pack_38 rfl rfl ?_
          refine g_iald (q := 40) hx d_Mo_pack_39 rfl hq.g2 rfl (by omega) (by decide) hpi ?_
          refine g_icmp_le (q := 43) (t := 63) hx d_Mo_pack_40 rfl rfl (nI_leI (by omega) (by omega)) (fun h40 => ?_) (fun h40 => ?_)
          · have e4 : mSlot (fun k => (fs (mSx (fun i => (fs i).1) i k)).1) (fs i).1 i = p + 1 := by
              rw [← e3]; simp only [mSlot]; rw [if_neg (by omega)]
            refine g_aload_n (q := 64) hx d_Mo_pack_63 rfl rfl ?_
            refine g_geta (q := 67) hx d_Mo_pack_64 rfl fl_Mo_43 hq.g0 (hq.p12 hP) (by first | exact Nat.succ_ne_zero _ | omega) ?_
            refine g_iload_n (q := 68) hx d_Mo_pack_67 rfl rfl ?_
            refine g_iload_n (q := 69) hx d_Mo_pack_68 rfl rfl ?_
            refine g_iast (q := 70) hx d_Mo_pack_69 rfl hq.g12 rfl (by omega) (by decide) ?_
            refine g_iinc (q := 73) (lc' := [(1, _), (2, _), (0, _)]) hx d_Mo_pack_70 rfl rfl (z_inc _) (by decide) rfl ?_
            refine g_goto (q := 7) hx d_Mo_pack_73 rfl ?_
            refine z_perm (lc' := [(1, .int (nI (i + 1))), (0, .ref m)]) (fun q hq => by simp only [List.mem_cons, List.not_mem_nil, or_false] at hq ⊢; rcases hq with h | h <;> simp [h]) ?_
            refine ih (i + 1) _ (by show c - (i + 1) < c - i; omega) (by omega) ((j1.tr k1).sa rfl (by decide) (by decide)) (fun j hj => ?_)
            simp only [mSx]
            rw [e4]
            unfold mIn
            by_cases c1 : j < (p + 1)
            · rw [if_pos c1, zi_k (by omega)]; exact e1 j c1
            · rw [if_neg c1]
              by_cases c2 : j = (p + 1)
              · rw [if_pos c2, c2, zi_s]
              · rw [if_neg c2, if_pos (by omega), zi_k c2]; exact e2 j (by omega) (by omega)
          · refine g_aload_n (q := 44) hx d_Mo_pack_43 rfl rfl ?_
            refine g_geta (q := 47) hx d_Mo_pack_44 rfl fl_Mo_43 hq.g0 (hq.p12 hP) (by first | exact Nat.succ_ne_zero _ | omega) ?_
            refine g_iload_n (q := 48) hx d_Mo_pack_47 rfl rfl ?_
            refine g_aload_n (q := 49) hx d_Mo_pack_48 rfl rfl ?_
            refine g_geta (q := 52) hx d_Mo_pack_49 rfl fl_Mo_43 hq.g0 (hq.p12 hP) (by first | exact Nat.succ_ne_zero _ | omega) ?_
            refine g_iload_n (q := 53) hx d_Mo_pack_52 rfl rfl ?_
            refine g_iconst (q := 54) (v := nI 1) hx d_Mo_pack_53 rfl (by decide) ?_
            refine g_isub (q := 55) hx d_Mo_pack_54 rfl (pk_sub (by omega)) ?_
            refine g_iald (q := 56) hx d_Mo_pack_55 rfl hq.g12 rfl (by omega) (by decide) (e1 p (by omega)) ?_
            refine g_iast (q := 57) hx d_Mo_pack_56 rfl hq.g12 rfl (by omega) (by decide) ?_
            refine g_iinc (q := 60) (lc' := [(2, _), (1, _), (0, _)]) hx d_Mo_pack_57 rfl rfl (z_dec (by omega)) (by decide) rfl ?_
            refine g_goto (q := 17) hx d_Mo_pack_60 rfl ?_
            refine ih2 p _ (by omega) (by omega) (k1.sa rfl (by decide) (by decide)) (fun j hj => ?_) (fun j hj1 hj2 => ?_) ?_
            · rw [zi_k (by omega)]; exact e1 j (by omega)
            · by_cases c9 : j = p + 1
              · subst c9; rw [zi_s, Nat.add_sub_cancel]
              · rw [zi_k c9]; exact e2 j (by omega) hj2
            · rw [← e3]; simp only [mSlot]; rw [if_pos (by omega)]
      exact inner i M1 (Nat.le_refl _) kF.rf j2 (fun j h1 h2 => by omega) rfl
  refine g_aload_n (q := 1) hx d_Mo_pack_0 rfl rfl ?_
  refine g_iconst (q := 2) (v := nI 0) hx d_Mo_pack_1 rfl (by decide) ?_
  refine g_puti (q := 5) hx d_Mo_pack_2 rfl fl_Mo_46 nf_7_0 hq.g0 ?_
  refine g_iconst (q := 6) (v := nI 0) hx d_Mo_pack_5 rfl (by decide) ?_
  refine g_istore_n (q := 7) (lc' := [(1, _), (0, _)]) hx d_Mo_pack_6 rfl (by decide) rfl ?_
  exact loop 0 _ (Nat.zero_le _) (kF.rf.si rfl) (fun j hj => absurd hj (Nat.not_lt_zero _))
