def bBA : Nat → Bool := fun i => i == 11
def bBI : Nat → Bool := fun i => i == 22
def bWA : Nat → Bool := fun i => i == 9 || i == 10 || i == 11
def bWI : Nat → Bool := fun i => i == 17 || i == 22
theorem bC_W : zSb bCA bWA := fun c h => by simp [bCA, bWA] at h ⊢; omega
theorem bR_W : zSb bRA bWA := fun c h => by simp [bRA, bWA] at h ⊢; omega
theorem bB_W : zSb bBA bWA := fun c h => by simp [bBA, bWA] at h ⊢; omega
theorem bCI_W : zSb bCI bWI := fun c h => by simp [bCI, bWI] at h ⊢; omega
theorem bBI_W : zSb bBI bWI := fun c h => by simp [bBI, bWI] at h ⊢; omega
theorem z_lsh {low k : Nat} (hl : low < 2 ^ 32) (hk : (((nI k).toInt64 &&& 63).toBitVec.smod 64).toNat = k) : lN low >>> ((nI k).toInt64 &&& 63) = lN (low / 2 ^ k) := by
  have h9 : low / 2 ^ k ≤ low := Nat.div_le_self _ _
  have h8 : (lN low >>> ((nI k).toInt64 &&& 63)).toInt = ((lN low).toBitVec.sshiftRight' (((nI k).toInt64 &&& 63).toBitVec.smod 64)).toInt := rfl
  have h7 : (lN low).toBitVec.toInt = (low : Int) := lg_ofNat_toInt (by omega)
  refine Int64.toInt_inj.mp ?_
  rw [h8, BitVec.toInt_sshiftRight', hk, h7, Int.shiftRight_eq_div_pow]
  have h6 : (lN (low / 2 ^ k)).toInt = ((low / 2 ^ k : Nat) : Int) := lg_ofNat_toInt (by omega)
  rw [h6]
  simp
theorem z_land {a : Nat} (ha : a < 2 ^ 32) : lN a &&& lN 255 = lN (a % 256) := by
  refine Int64.toBitVec_inj.mp (BitVec.eq_of_toNat_eq ?_)
  show ((BitVec.ofNat 64 a) &&& (BitVec.ofNat 64 255)).toNat = (BitVec.ofNat 64 (a % 256)).toNat
  rw [BitVec.toNat_and, BitVec.toNat_ofNat, BitVec.toNat_ofNat, BitVec.toNat_ofNat, Nat.mod_eq_of_lt (by omega : a < 2 ^ 64), Nat.mod_eq_of_lt (by omega : a % 256 < 2 ^ 64), Nat.mod_eq_of_lt (by omega : 255 < 2 ^ 64)]
  exact Nat.and_two_pow_sub_one_eq_mod a 8
set_option maxHeartbeats 4000000 in
set_option maxRecDepth 100000 in
theorem c_Mo_fresh (l : Launch) (E : zE) (Γ : zG) (n : Nat) (M : zM) (m : Nat) (hq : qX Γ M.2.2 m) : zCt l E Y_Mo_fresh 0 (0, 0) [.ref m] Γ n M (zPv Γ n (fun M' => kF bCA bCI bCL m M M' ∧ qE M' m (mE0 (fun _ => 0)))) := by
  refine zCt.of [(0, .ref m)] (by decide) (Nat.le_of_ble_eq_true rfl) rfl (fun f hfl hx hQ => ?_)
  obtain ⟨P, hP⟩ : ∃ P, M.2.2 = P := ⟨_, rfl⟩
  rw [hP] at hq
  have hm0 := hq.m0
  have loop : ∀ (i : Nat) (M1 : zM), i ≤ 59 → kF bCA bCI bCL m M M1 → zl M1 m 14 = lN 0 → zl M1 m 15 = lN 4294967295 → zi M1 m 17 = nI 0 → (∀ q, q < i → zi M1 (m + 9) q = nI 1024) → zGo f E Γ n (0, 0) M1 19 [(1, .int (nI i)), (0, .ref m)] [] := by
    refine z_lp (fun i => 59 - i) _ ?_
    intro i M1 ih hi t1 t2 t3 t4 t5
    replace hP : M1.2.2 = P := t1.r.trans hP
    refine g_iload_n (q := 20) hx d_Mo_fresh_19 rfl rfl ?_
    refine g_bipush (q := 22) (v := nI 59) hx d_Mo_fresh_20 rfl (by decide) ?_
    refine g_icmp_ge (q := 25) (t := 40) hx d_Mo_fresh_22 rfl rfl (nI_leI (by omega) (by omega)) (fun h22 => ?_) (fun h22 => ?_)
    · exact g_vret hx d_Mo_fresh_40 rfl hQ ⟨Nat.le_refl _, Nat.le_refl _⟩ ⟨rfl, rfl, rfl, t1, t2, t3, fun q hq => t5 q (by omega), t4, fun j hj => absurd hj (Nat.not_lt_zero _)⟩
    · refine g_aload_n (q := 26) hx d_Mo_fresh_25 rfl rfl ?_
      refine g_geta (q := 29) hx d_Mo_fresh_26 rfl fl_Mo_34 hq.g0 (hq.p9 hP) (by first | exact Nat.succ_ne_zero _ | omega) ?_
      refine g_iload_n (q := 30) hx d_Mo_fresh_29 rfl rfl ?_
      refine g_sipush (q := 33) (v := nI 1024) hx d_Mo_fresh_30 rfl (by decide) ?_
      refine g_iast (q := 34) hx d_Mo_fresh_33 rfl hq.g9 rfl (by omega) (by decide) ?_
      refine g_iinc (q := 37) (lc' := [(1, _), (0, _)]) hx d_Mo_fresh_34 rfl rfl (z_inc _) (by decide) rfl ?_
      refine g_goto (q := 19) hx d_Mo_fresh_37 rfl ?_
      refine ih (i + 1) _ (by omega) (by omega) (t1.sa rfl (by decide) (by decide)) t2 t3 ((zi_a (by omega)).trans t4) (fun q hq => ?_)
      by_cases e : q = i
      · subst e; exact zi_s _ _ _ _
      · rw [zi_k e]; exact t5 q (by omega)
  refine g_aload_n (q := 1) hx d_Mo_fresh_0 rfl rfl ?_
  refine g_lconst (q := 2) (v := lN 0) hx d_Mo_fresh_1 rfl (by decide) ?_
  refine g_putl (q := 5) hx d_Mo_fresh_2 rfl fl_Mo_82 nf_7_14 hq.g0 ?_
  refine g_aload_n (q := 6) hx d_Mo_fresh_5 rfl rfl ?_
  refine g_ldc2 (q := 9) (v := lN 4294967295) hx d_Mo_fresh_6 rfl ct_Mo_86 ?_
  refine g_putl (q := 12) hx d_Mo_fresh_9 rfl fl_Mo_88 nf_7_15 hq.g0 ?_
  refine g_aload_n (q := 13) hx d_Mo_fresh_12 rfl rfl ?_
  refine g_iconst (q := 14) (v := nI 0) hx d_Mo_fresh_13 rfl (by decide) ?_
  refine g_puti (q := 17) hx d_Mo_fresh_14 rfl fl_Mo_91 nf_7_17 hq.g0 ?_
  refine g_iconst (q := 18) (v := nI 0) hx d_Mo_fresh_17 rfl (by decide) ?_
  refine g_istore_n (q := 19) (lc' := [(1, _), (0, _)]) hx d_Mo_fresh_18 rfl (by decide) rfl ?_
  exact loop 0 _ (Nat.zero_le _) (((kF.rf.sl rfl).sl rfl).si rfl) ((zl_k (by decide)).trans (zl_s _ _ _ _)) (zl_s _ _ _ _) (zi_s _ _ _ _) (fun q hq => absurd hq (Nat.not_lt_zero _))
set_option maxHeartbeats 4000000 in
set_option maxRecDepth 100000 in
theorem c_Mo_seal (l : Launch) (E : zE) (Γ : zG) (n : Nat) (M : zM) (m : Nat) (r : Nat) (s : mEn) (hq : qX Γ M.2.2 m) (hs : r = s.2.2.2.1) (hlow : zl M m 14 = lN s.1) (hl32 : s.1 < 2 ^ 32) (hr : zi M m 17 = nI r) (hrow : ∀ j, j < r → zi M (m + 10) j = nI (s.2.2.2.2 j)) (hr6 : r ≤ 590) (hb : ∀ j, j < r → s.2.2.2.2 j < 256) :
    zCt l E Y_Mo_seal 0 (0, 0) [.ref m] Γ n M (zPv Γ n (fun M' => kF bRA bCI bN m M M' ∧ zi M' m 17 = nI (mStrip (mSeal s) (r + 4)) ∧ ∀ j, j < r + 4 → zi M' (m + 10) j = nI (mSeal s j))) := by
  refine zCt.of [(0, .ref m)] (by decide) (Nat.le_of_ble_eq_true rfl) rfl (fun f hfl hx hQ => ?_)
  obtain ⟨P, hP⟩ : ∃ P, M.2.2 = P := ⟨_, rfl⟩
  rw [hP] at hq
  have hm0 := hq.m0
  have hb9 : ∀ j, j < r + 4 → mSeal s j < 256 := by
    intro j hj
    unfold mSeal mUp
    rw [← hs]
    split
    · omega
    · split
      · omega
      · split
        · omega
        · split
          · omega
          · exact hb j (by omega)
  have strip : ∀ (c : Nat) (M1 : zM), c ≤ r + 4 → kF bRA bCI bN m M M1 → zi M1 m 17 = nI c → (∀ j, j < r + 4 → zi M1 (m + 10) j = nI (mSeal s j)) → mStrip (mSeal s) c = mStrip (mSeal s) (r + 4) → zGo f E Γ n (0, 0) M1 43 [(0, .ref m)] [] := by
    refine z_lp (fun c => c) _ ?_
    intro c M1 ih hc t1 t2 t3 t4
    replace hP : M1.2.2 = P := t1.r.trans hP
    refine g_aload_n (q := 44) hx d_Mo_seal_43 rfl rfl ?_
    refine g_geti (q := 47) hx d_Mo_seal_44 rfl fl_Mo_91 hq.g0 t2 ?_
    refine g_if_le (q := 50) (t := 77) hx d_Mo_seal_47 rfl rfl (zb_le0 (by omega)) (fun h47 => ?_) (fun h47 => ?_)
    · exact g_vret hx d_Mo_seal_77 rfl hQ ⟨Nat.le_refl _, Nat.le_refl _⟩ ⟨rfl, rfl, rfl, t1, by rw [t2, ← t4, h47]; rfl, t3⟩
    · obtain ⟨c, rfl⟩ : ∃ z, c = z + 1 := ⟨c - 1, by omega⟩
      refine g_aload_n (q := 51) hx d_Mo_seal_50 rfl rfl ?_
      refine g_geta (q := 54) hx d_Mo_seal_51 rfl fl_Mo_37 hq.g0 (hq.p10 hP) (by first | exact Nat.succ_ne_zero _ | omega) ?_
      refine g_aload_n (q := 55) hx d_Mo_seal_54 rfl rfl ?_
      refine g_geti (q := 58) hx d_Mo_seal_55 rfl fl_Mo_91 hq.g0 t2 ?_
      refine g_iconst (q := 59) (v := nI 1) hx d_Mo_seal_58 rfl (by decide) ?_
      refine g_isub (q := 60) hx d_Mo_seal_59 rfl (pk_sub (by omega)) ?_
      refine g_iald (q := 61) hx d_Mo_seal_60 rfl hq.g10 rfl (by omega) (by decide) (t3 c (by omega)) ?_
      refine g_if_ne (q := 64) (t := 77) hx d_Mo_seal_61 rfl rfl (zb_ne0 (by have := hb9 c (by omega); omega)) (fun h61 => ?_) (fun h61 => ?_)
      · exact g_vret hx d_Mo_seal_77 rfl hQ ⟨Nat.le_refl _, Nat.le_refl _⟩ ⟨rfl, rfl, rfl, t1, by rw [t2, ← t4]; simp only [mStrip]; rw [if_neg h61], t3⟩
      · refine g_aload_n (q := 65) hx d_Mo_seal_64 rfl rfl ?_
        refine g_dup (q := 66) hx d_Mo_seal_65 rfl rfl ?_
        refine g_geti (q := 69) hx d_Mo_seal_66 rfl fl_Mo_91 hq.g0 t2 ?_
        refine g_iconst (q := 70) (v := nI 1) hx d_Mo_seal_69 rfl (by decide) ?_
        refine g_isub (q := 71) hx d_Mo_seal_70 rfl (pk_sub (by omega)) ?_
        refine g_puti (q := 74) hx d_Mo_seal_71 rfl fl_Mo_91 nf_7_17 hq.g0 ?_
        refine g_goto (q := 43) hx d_Mo_seal_74 rfl ?_
        refine ih c _ (by omega) (by omega) (t1.si rfl) (zi_s _ _ _ _) (fun j hj => (zi_a (by omega)).trans (t3 j hj)) ?_
        rw [← t4]
        simp only [mStrip]
        rw [if_pos (by omega)]
  subst hs
  refine g_bipush (q := 2) (v := nI 24) hx d_Mo_seal_0 rfl (by decide) ?_
  refine g_istore_n (q := 3) (lc' := [(1, _), (0, _)]) hx d_Mo_seal_2 rfl (by decide) rfl ?_
  refine g_iload_n (q := 4) hx d_Mo_seal_3 rfl rfl ?_
  refine g_if_lt (q := 7) (t := 43) hx d_Mo_seal_4 rfl rfl (zb_lt0 (by omega)) (fun h4 => ?_) (fun h4 => ?_)
  · exact h4.elim
  · refine g_aload_n (q := 8) hx d_Mo_seal_7 rfl rfl ?_
    refine g_geta (q := 11) hx d_Mo_seal_8 rfl fl_Mo_37 hq.g0 (hq.p10 hP) (by first | exact Nat.succ_ne_zero _ | omega) ?_
    refine g_aload_n (q := 12) hx d_Mo_seal_11 rfl rfl ?_
    refine g_geti (q := 15) hx d_Mo_seal_12 rfl fl_Mo_91 hq.g0 hr ?_
    refine g_aload_n (q := 16) hx d_Mo_seal_15 rfl rfl ?_
    refine g_getl (q := 19) hx d_Mo_seal_16 rfl fl_Mo_82 hq.g0 hlow ?_
    refine g_iload_n (q := 20) hx d_Mo_seal_19 rfl rfl ?_
    refine g_lshr (q := 21) hx d_Mo_seal_20 rfl (z_lsh (k := 24) hl32 (by decide)) ?_
    refine g_ldc2 (q := 24) (v := lN 255) hx d_Mo_seal_21 rfl ct_Mo_117 ?_
    refine g_land (q := 25) hx d_Mo_seal_24 rfl (z_land (by omega)) ?_
    refine g_l2i (q := 26) hx d_Mo_seal_25 rfl (lN_i _) ?_
    refine g_iast (q := 27) hx d_Mo_seal_26 rfl hq.g10 rfl (by omega) (by decide) ?_
    refine g_aload_n (q := 28) hx d_Mo_seal_27 rfl rfl ?_
    refine g_dup (q := 29) hx d_Mo_seal_28 rfl rfl ?_
    refine g_geti (q := 32) hx d_Mo_seal_29 rfl fl_Mo_91 hq.g0 ((zi_a (by omega)).trans hr) ?_
    refine g_iconst (q := 33) (v := nI 1) hx d_Mo_seal_32 rfl (by decide) ?_
    refine g_iadd (q := 34) hx d_Mo_seal_33 rfl (nI_add _ _) ?_
    refine g_puti (q := 37) hx d_Mo_seal_34 rfl fl_Mo_91 nf_7_17 hq.g0 ?_
    refine g_iinc (q := 40) (lc' := [(1, _), (0, _)]) hx d_Mo_seal_37 rfl rfl (show nI 24 + Int32.ofInt (-8) = nI 16 from by decide) (by decide) rfl ?_
    refine g_goto (q := 3) hx d_Mo_seal_40 rfl ?_
    refine g_iload_n (q := 4) hx d_Mo_seal_3 rfl rfl ?_
    refine g_if_lt (q := 7) (t := 43) hx d_Mo_seal_4 rfl rfl (zb_lt0 (by omega)) (fun h4 => ?_) (fun h4 => ?_)
    · exact h4.elim
    · refine g_aload_n (q := 8) hx d_Mo_seal_7 rfl rfl ?_
      refine g_geta (q := 11) hx d_Mo_seal_8 rfl fl_Mo_37 hq.g0 (hq.p10 hP) (by first | exact Nat.succ_ne_zero _ | omega) ?_
      refine g_aload_n (q := 12) hx d_Mo_seal_11 rfl rfl ?_
      refine g_geti (q := 15) hx d_Mo_seal_12 rfl fl_Mo_91 hq.g0 (zi_s _ _ _ _) ?_
      refine g_aload_n (q := 16) hx d_Mo_seal_15 rfl rfl ?_
      refine g_getl (q := 19) hx d_Mo_seal_16 rfl fl_Mo_82 hq.g0 hlow ?_
      refine g_iload_n (q := 20) hx d_Mo_seal_19 rfl rfl ?_
      refine g_lshr (q := 21) hx d_Mo_seal_20 rfl (z_lsh (k := 16) hl32 (by decide)) ?_
      refine g_ldc2 (q := 24) (v := lN 255) hx d_Mo_seal_21 rfl ct_Mo_117 ?_
      refine g_land (q := 25) hx d_Mo_seal_24 rfl (z_land (by omega)) ?_
      refine g_l2i (q := 26) hx d_Mo_seal_25 rfl (lN_i _) ?_
      refine g_iast (q := 27) hx d_Mo_seal_26 rfl hq.g10 rfl (by omega) (by decide) ?_
      refine g_aload_n (q := 28) hx d_Mo_seal_27 rfl rfl ?_
      refine g_dup (q := 29) hx d_Mo_seal_28 rfl rfl ?_
      refine g_geti (q := 32) hx d_Mo_seal_29 rfl fl_Mo_91 hq.g0 ((zi_a (by omega)).trans (zi_s _ _ _ _)) ?_
      refine g_iconst (q := 33) (v := nI 1) hx d_Mo_seal_32 rfl (by decide) ?_
      refine g_iadd (q := 34) hx d_Mo_seal_33 rfl (nI_add _ _) ?_
      refine g_puti (q := 37) hx d_Mo_seal_34 rfl fl_Mo_91 nf_7_17 hq.g0 ?_
      refine g_iinc (q := 40) (lc' := [(1, _), (0, _)]) hx d_Mo_seal_37 rfl rfl (show nI 16 + Int32.ofInt (-8) = nI 8 from by decide) (by decide) rfl ?_
      refine g_goto (q := 3) hx d_Mo_seal_40 rfl ?_
      refine g_iload_n (q := 4) hx d_Mo_seal_3 rfl rfl ?_
      refine g_if_lt (q := 7) (t := 43) hx d_Mo_seal_4 rfl rfl (zb_lt0 (by omega)) (fun h4 => ?_) (fun h4 => ?_)
      · exact h4.elim
      · refine g_aload_n (q := 8) hx d_Mo_seal_7 rfl rfl ?_
        refine g_geta (q := 11) hx d_Mo_seal_8 rfl fl_Mo_37 hq.g0 (hq.p10 hP) (by first | exact Nat.succ_ne_zero _ | omega) ?_
        refine g_aload_n (q := 12) hx d_Mo_seal_11 rfl rfl ?_
        refine g_geti (q := 15) hx d_Mo_seal_12 rfl fl_Mo_91 hq.g0 (zi_s _ _ _ _) ?_
        refine g_aload_n (q := 16) hx d_Mo_seal_15 rfl rfl ?_
        refine g_getl (q := 19) hx d_Mo_seal_16 rfl fl_Mo_82 hq.g0 hlow ?_
        refine g_iload_n (q := 20) hx d_Mo_seal_19 rfl rfl ?_
        refine g_lshr (q := 21) hx d_Mo_seal_20 rfl (z_lsh (k := 8) hl32 (by decide)) ?_
        refine g_ldc2 (q := 24) (v := lN 255) hx d_Mo_seal_21 rfl ct_Mo_117 ?_
        refine g_land (q := 25) hx d_Mo_seal_24 rfl (z_land (by omega)) ?_
        refine g_l2i (q := 26) hx d_Mo_seal_25 rfl (lN_i _) ?_
        refine g_iast (q := 27) hx d_Mo_seal_26 rfl hq.g10 rfl (by omega) (by decide) ?_
        refine g_aload_n (q := 28) hx d_Mo_seal_27 rfl rfl ?_
        refine g_dup (q := 29) hx d_Mo_seal_28 rfl rfl ?_
        refine g_geti (q := 32) hx d_Mo_seal_29 rfl fl_Mo_91 hq.g0 ((zi_a (by omega)).trans (zi_s _ _ _ _)) ?_
        refine g_iconst (q := 33) (v := nI 1) hx d_Mo_seal_32 rfl (by decide) ?_
        refine g_iadd (q := 34) hx d_Mo_seal_33 rfl (nI_add _ _) ?_
        refine g_puti (q := 37) hx d_Mo_seal_34 rfl fl_Mo_91 nf_7_17 hq.g0 ?_
        refine g_iinc (q := 40) (lc' := [(1, _), (0, _)]) hx d_Mo_seal_37 rfl rfl (show nI 8 + Int32.ofInt (-8) = nI 0 from by decide) (by decide) rfl ?_
        refine g_goto (q := 3) hx d_Mo_seal_40 rfl ?_
        refine g_iload_n (q := 4) hx d_Mo_seal_3 rfl rfl ?_
        refine g_if_lt (q := 7) (t := 43) hx d_Mo_seal_4 rfl rfl (zb_lt0 (by omega)) (fun h4 => ?_) (fun h4 => ?_)
        · exact h4.elim
        · refine g_aload_n (q := 8) hx d_Mo_seal_7 rfl rfl ?_
          refine g_geta (q := 11) hx d_Mo_seal_8 rfl fl_Mo_37 hq.g0 (hq.p10 hP) (by first | exact Nat.succ_ne_zero _ | omega) ?_
          refine g_aload_n (q := 12) hx d_Mo_seal_11 rfl rfl ?_
          refine g_geti (q := 15) hx d_Mo_seal_12 rfl fl_Mo_91 hq.g0 (zi_s _ _ _ _) ?_
          refine g_aload_n (q := 16) hx d_Mo_seal_15 rfl rfl ?_
          refine g_getl (q := 19) hx d_Mo_seal_16 rfl fl_Mo_82 hq.g0 hlow ?_
          refine g_iload_n (q := 20) hx d_Mo_seal_19 rfl rfl ?_
          refine g_lshr (q := 21) hx d_Mo_seal_20 rfl (z_lsh (k := 0) hl32 (by decide)) ?_
          refine g_ldc2 (q := 24) (v := lN 255) hx d_Mo_seal_21 rfl ct_Mo_117 ?_
          refine g_land (q := 25) hx d_Mo_seal_24 rfl (z_land (by omega)) ?_
          refine g_l2i (q := 26) hx d_Mo_seal_25 rfl (lN_i _) ?_
          refine g_iast (q := 27) hx d_Mo_seal_26 rfl hq.g10 rfl (by omega) (by decide) ?_
          refine g_aload_n (q := 28) hx d_Mo_seal_27 rfl rfl ?_
          refine g_dup (q := 29) hx d_Mo_seal_28 rfl rfl ?_
          refine g_geti (q := 32) hx d_Mo_seal_29 rfl fl_Mo_91 hq.g0 ((zi_a (by omega)).trans (zi_s _ _ _ _)) ?_
          refine g_iconst (q := 33) (v := nI 1) hx d_Mo_seal_32 rfl (by decide) ?_
          refine g_iadd (q := 34) hx d_Mo_seal_33 rfl (nI_add _ _) ?_
          refine g_puti (q := 37) hx d_Mo_seal_34 rfl fl_Mo_91 nf_7_17 hq.g0 ?_
          refine g_iinc (q := 40) (lc' := [(1, _), (0, _)]) hx d_Mo_seal_37 rfl rfl rfl (by decide) rfl ?_
          refine g_goto (q := 3) hx d_Mo_seal_40 rfl ?_
          refine g_iload_n (q := 4) hx d_Mo_seal_3 rfl rfl ?_
          refine g_if_lt (q := 7) (t := 43) hx d_Mo_seal_4 rfl rfl Iff.rfl (fun h4 => ?_) (fun h4 => ?_)
          · refine z_perm (lc' := [(0, .ref m)]) (fun q hq => by rw [List.mem_singleton.mp hq]; simp) ?_
            exact strip (s.2.2.2.1 + 4) _ (by omega) ((((((((kF.rf.sa rfl (by decide) (by decide)).si rfl).sa rfl (by decide) (by decide)).si rfl).sa rfl (by decide) (by decide)).si rfl).sa rfl (by decide) (by decide)).si rfl) (zi_s _ _ _ _) (fun j hj => by
              simp only [zi_si]
              unfold mSeal mUp
              have d1 : m ≠ m + 10 := by omega
              have d2 : m + 10 ≠ m := by omega
              have e1 : s.1 / 2 ^ 24 % 256 = s.1 / 16777216 := Nat.mod_eq_of_lt (by omega)
              have e1' : s.1 / 16777216 % 256 = s.1 / 16777216 := Nat.mod_eq_of_lt (by omega)
              have e2 : s.1 / 2 ^ 0 % 256 = s.1 % 256 := by rw [Nat.pow_zero, Nat.div_one]
              by_cases c3 : j = s.2.2.2.1 + 3
              · simp [c3, d1, d2, e2]
              · by_cases c2 : j = s.2.2.2.1 + 2
                · simp [c2, d1, d2]
                · by_cases c1 : j = s.2.2.2.1 + 1
                  · simp [c1, d1, d2]
                  · by_cases c0 : j = s.2.2.2.1
                    · simp [c0, d1, d2, e1, e1']
                      rw [if_neg (by omega), if_neg (by omega)]
                    · simp only [c0, c1, c2, c3, d1, d2, and_false, false_and, if_false]
                      exact hrow j (by omega)) rfl
          · exact absurd (by decide) h4
def pB (M : zM) (m L : Nat) (f : Nat → Nat) : Prop := zi M m 22 = nI L ∧ ∀ j, j < L → zi M (m + 11) j = nI (f j)
set_option maxHeartbeats 4000000 in
set_option maxRecDepth 100000 in
theorem c_Mo_add (l : Launch) (E : zE) (Γ : zG) (n : Nat) (M : zM) (m : Nat) (L : Nat) (f9 : Nat → Nat) (x : Int32) (hq : qX Γ M.2.2 m) (hB : pB M m L f9) (hL7 : L < 700) (hv : x = nI (f9 L)) :
    zCt l E Y_Mo_add 0 (0, 0) [.ref m, .int x] Γ n M (zPv Γ n (fun M' => kF bBA bBI bN m M M' ∧ pB M' m (L + 1) f9)) := by
  refine zCt.of [(0, .ref m), (1, .int x)] (by decide) (Nat.le_of_ble_eq_true rfl) rfl (fun f hfl hx hQ => ?_)
  obtain ⟨P, hP⟩ : ∃ P, M.2.2 = P := ⟨_, rfl⟩
  rw [hP] at hq
  have hm0 := hq.m0
  obtain ⟨hL, hf9⟩ := hB
  refine g_aload_n (q := 1) hx d_Mo_add_0 rfl rfl ?_
  refine g_geta (q := 4) hx d_Mo_add_1 rfl fl_Mo_40 hq.g0 (hq.p11 hP) (by first | exact Nat.succ_ne_zero _ | omega) ?_
  refine g_aload_n (q := 5) hx d_Mo_add_4 rfl rfl ?_
  refine g_geti (q := 8) hx d_Mo_add_5 rfl fl_Mo_119 hq.g0 hL ?_
  refine g_iload_n (q := 9) hx d_Mo_add_8 rfl rfl ?_
  refine g_iast (q := 10) hx d_Mo_add_9 rfl hq.g11 rfl (by omega) (by decide) ?_
  refine g_aload_n (q := 11) hx d_Mo_add_10 rfl rfl ?_
  refine g_dup (q := 12) hx d_Mo_add_11 rfl rfl ?_
  refine g_geti (q := 15) hx d_Mo_add_12 rfl fl_Mo_119 hq.g0 ((zi_a (by omega)).trans hL) ?_
  refine g_iconst (q := 16) (v := nI 1) hx d_Mo_add_15 rfl (by decide) ?_
  refine g_iadd (q := 17) hx d_Mo_add_16 rfl (nI_add _ _) ?_
  refine g_puti (q := 20) hx d_Mo_add_17 rfl fl_Mo_119 nf_7_22 hq.g0 ?_
  exact g_vret hx d_Mo_add_20 rfl hQ ⟨Nat.le_refl _, Nat.le_refl _⟩ ⟨rfl, rfl, rfl, (kF.rf.sa rfl (by decide) (by decide)).si rfl, zi_s _ _ _ _, fun j hj => by
        rw [zi_a (by omega)]
        by_cases e : j = L
        · subst e; rw [zi_s, hv]
        · rw [zi_k e]; exact hf9 j (by omega)⟩
set_option maxHeartbeats 4000000 in
set_option maxRecDepth 100000 in
theorem c_Mo_write (l : Launch) (E : zE) (Γ : zG) (n : Nat) (M : zM) (m : Nat) (fr len : Nat) (ref : Nat → Nat) (rs : List mRd) (o : Nat → Nat) (hq : qX Γ M.2.2 m) (hR : qR M m len ref) (hc1 : 1 ≤ rs.length) (hc3 : rs.length ≤ 3) (hfr : fr + rs.length ≤ 24) (ho : ∀ i, i < rs.length → zi M (m + 12) (fr + i) = nI (o i) ∧ o i < 31) (hS : ∀ i, i < rs.length → qS M m (o i) (mAt rs i)) (hok : ∀ i, i < rs.length → mOk ref len (mAt rs i)) (hsort : ∀ i, i + 1 < rs.length → (mAt rs i).1 ≤ (mAt rs (i + 1)).1) :
    zCt l E Y_Mo_write 4 (0, 0) [.ref m, .int (nI fr), .int (nI rs.length)] Γ n M (zPv Γ n (fun M' => kF bWA bWI bCL m M M' ∧ pB M' m (mBl ref rs) (mBlk ref rs))) := by
  refine zCt.of [(0, .ref m), (1, .int (nI fr)), (2, .int (nI rs.length))] (by decide) (Nat.le_of_ble_eq_true rfl) rfl (fun f hfl hx hQ => ?_)
  have hq0 := hq
  have hP : M.2.2 = M.2.2 := rfl
  have hm0 := hq.m0
  have ho0 : zi M (m + 12) fr = nI (o 0) := (ho 0 (by omega)).1
  have ho09 := (ho 0 (by omega)).2
  have hall : ∀ r ∈ rs, mOk ref len r := fun r hr => by
    obtain ⟨i, hi, e⟩ := mAt_mem hr
    rw [← e]; exact hok i hi
  have hst := mSt_ok hR.2.2.2 hR.2.2.1 hall
  have hp0 := (hok 0 (by omega)).1
  have hl160 := hR.2.2.1
  have hrl : mRl ref rs ≤ (mSt ref rs).2.2.2.1 + 4 := mStrip_le _ _
  have h256 : ∀ j, j < mRl ref rs + 3 → mBlk0 ref rs j < 256 := by
    intro j hj
    have h9 := mBlk_lt hR.2.2.2 hR.2.2.1 hall hc3 (j := j) (by unfold mBl; omega)
    unfold mBlk at h9
    rw [if_neg (by omega), if_neg (by omega)] at h9
    exact h9
  have hcan : mCan (mE0 (fun _ => 0)) (mBits ref (mAt rs 0).1 (rs.drop 0) ++ []) := by
    have h1 := mBits_ok hR.2.2.2 hR.2.2.1 rs (mAt rs 0).1 hall
    rw [List.append_nil]
    exact ⟨(mE0_ok _).1, h1.1, 0, (mE0_ok _).2, by
      have h2 : mCos (mBits ref (mAt rs 0).1 rs) ≤ 644 * rs.length := h1.2
      show 0 + mCos (mBits ref (mAt rs 0).1 rs) ≤ 1936
      omega⟩
  have loop3 : ∀ (j : Nat) (M1 : zM), j ≤ mRl ref rs + 3 → kF bWA bWI bCL m M M1 → pB M1 m (mRl ref rs + 3) (mBlk0 ref rs) → zGo f E Γ n (0, 0) M1 133 [(5, .int (nI j)), (4, .int (nI (mChk (mBlk0 ref rs) j))), (0, .ref m), (1, .int (nI fr)), (2, .int (nI rs.length))] [] := by
    refine z_lp (fun j => mRl ref rs + 3 - j) _ ?_
    intro j M1 ih hj k1 b1
    replace hP := k1.r
    refine g_iload (q := 135) hx d_Mo_write_133 rfl rfl ?_
    refine g_aload_n (q := 136) hx d_Mo_write_135 rfl rfl ?_
    refine g_geti (q := 139) hx d_Mo_write_136 rfl fl_Mo_119 hq.g0 b1.1 ?_
    refine g_icmp_ge (q := 142) (t := 166) hx d_Mo_write_139 rfl rfl (nI_leI (by omega) (by omega)) (fun h139 => ?_) (fun h139 => ?_)
    · obtain rfl : j = mRl ref rs + 3 := (by omega)
      have hcl := mChk_lt (mBlk0 ref rs) (mRl ref rs + 3)
      replace b1 : pB M1 m (mRl ref rs + 3) (mBlk ref rs) := ⟨b1.1, fun j hj => (b1.2 j hj).trans (congrArg nI (by unfold mBlk; rw [if_neg (by omega), if_neg (by omega)]))⟩
      refine g_aload_n (q := 167) hx d_Mo_write_166 rfl rfl ?_
      refine g_iload (q := 169) hx d_Mo_write_167 rfl rfl ?_
      refine g_sipush (q := 172) (v := nI 256) hx d_Mo_write_169 rfl (by decide) ?_
      refine g_idiv (q := 173) hx d_Mo_write_172 rfl (nI_ne0 (by omega) (by omega)) (pk_div (by omega) (by omega) (by omega)) ?_
      refine g_cv (q := 176) (zrunV hx d_Mo_write_173 lk_Mo_131 rfl rfl hq.g0 rfl rfl (Nat.le_of_ble_eq_true rfl) (by decide) (by omega) (by omega) (c_Mo_add _ E Γ n _ m (mRl ref rs + 3) (mBlk ref rs) _ (by rw [k1.r]; exact hq0) b1 (by omega) (congrArg nI (if_pos rfl).symm))) rfl (fun M173 p173 => ?_)
      replace k1 := k1.tr (p173.1.mono bB_W bBI_W (bN_ _))
      replace b1 := p173.2
      replace hP := k1.r
      refine g_aload_n (q := 177) hx d_Mo_write_176 rfl rfl ?_
      refine g_iload (q := 179) hx d_Mo_write_177 rfl rfl ?_
      refine g_sipush (q := 182) (v := nI 256) hx d_Mo_write_179 rfl (by decide) ?_
      refine g_irem (q := 183) hx d_Mo_write_182 rfl (nI_ne0 (by omega) (by omega)) (pk_rem (by omega) (by omega) (by omega)) ?_
      refine g_cv (q := 186) (zrunV hx d_Mo_write_183 lk_Mo_131 rfl rfl hq.g0 rfl rfl (Nat.le_of_ble_eq_true rfl) (by decide) (by omega) (by omega) (c_Mo_add _ E Γ n _ m (mRl ref rs + 4) (mBlk ref rs) _ (by rw [k1.r]; exact hq0) b1 (by omega) (congrArg nI ((if_neg (by omega)).trans (if_pos rfl)).symm))) rfl (fun M183 p183 => ?_)
      replace k1 := k1.tr (p183.1.mono bB_W bBI_W (bN_ _))
      replace b1 := p183.2
      replace hP := k1.r
      exact g_vret hx d_Mo_write_186 rfl hQ ⟨Nat.le_refl _, Nat.le_refl _⟩ ⟨rfl, rfl, rfl, k1, b1⟩
    · have hcl := mChk_lt (mBlk0 ref rs) j
      have hbj := h256 j (by omega)
      refine g_bipush (q := 144) (v := nI 31) hx d_Mo_write_142 rfl (by decide) ?_
      refine g_iload (q := 146) hx d_Mo_write_144 rfl rfl ?_
      refine g_imul (q := 147) hx d_Mo_write_146 rfl (pk_mul _ _) ?_
      refine g_aload_n (q := 148) hx d_Mo_write_147 rfl rfl ?_
      refine g_geta (q := 151) hx d_Mo_write_148 rfl fl_Mo_40 hq.g0 (hq.p11 hP) (by first | exact Nat.succ_ne_zero _ | omega) ?_
      refine g_iload (q := 153) hx d_Mo_write_151 rfl rfl ?_
      refine g_iald (q := 154) hx d_Mo_write_153 rfl hq.g11 rfl (by omega) (by decide) (b1.2 j (by omega)) ?_
      refine g_iadd (q := 155) hx d_Mo_write_154 rfl (nI_add _ _) ?_
      refine g_ldc (q := 157) (v := nI 65521) hx d_Mo_write_155 rfl ct_Mo_135 ?_
      refine g_irem (q := 158) hx d_Mo_write_157 rfl (nI_ne0 (by omega) (by omega)) (pk_rem (by omega) (by omega) (by omega)) ?_
      refine g_istore (q := 160) (lc' := [(4, _), (5, _), (0, _), (1, _), (2, _)]) hx d_Mo_write_158 rfl (by decide) rfl ?_
      refine g_iinc (q := 163) (lc' := [(5, _), (4, _), (0, _), (1, _), (2, _)]) hx d_Mo_write_160 rfl rfl (z_inc _) (by decide) rfl ?_
      refine g_goto (q := 133) hx d_Mo_write_163 rfl ?_
      exact ih (j + 1) M1 (by omega) (by omega) k1 b1
  have loop2 : ∀ (k : Nat) (M1 : zM), ∀ b : Nat, k ≤ mRl ref rs → kF bWA bWI bCL m M M1 → pB M1 m (3 + k) (mBlk0 ref rs) → zi M1 m 17 = nI (mRl ref rs) → (∀ j, j < mRl ref rs → zi M1 (m + 10) j = nI (mRow ref rs j)) → zGo f E Γ n (0, 0) M1 100 [(4, .int (nI k)), (3, .int (nI b)), (0, .ref m), (1, .int (nI fr)), (2, .int (nI rs.length))] [] := by
    refine z_lp (fun k => mRl ref rs - k) _ ?_
    intro k M1 ih b hk k1 b1 r1 r2
    replace hP := k1.r
    refine g_iload (q := 102) hx d_Mo_write_100 rfl rfl ?_
    refine g_aload_n (q := 103) hx d_Mo_write_102 rfl rfl ?_
    refine g_geti (q := 106) hx d_Mo_write_103 rfl fl_Mo_91 hq.g0 r1 ?_
    refine g_icmp_ge (q := 109) (t := 126) hx d_Mo_write_106 rfl rfl (nI_leI (by omega) (by omega)) (fun h106 => ?_) (fun h106 => ?_)
    · obtain rfl : k = mRl ref rs := (by omega)
      rw [Nat.add_comm] at b1
      refine g_bipush (q := 128) (v := nI 7) hx d_Mo_write_126 rfl (by decide) ?_
      refine g_istore (q := 130) (lc' := [(4, _), (3, _), (0, _), (1, _), (2, _)]) hx d_Mo_write_128 rfl (by decide) rfl ?_
      refine g_iconst (q := 131) (v := nI 0) hx d_Mo_write_130 rfl (by decide) ?_
      refine g_istore (q := 133) (lc' := [(5, _), (4, _), (3, _), (0, _), (1, _), (2, _)]) hx d_Mo_write_131 rfl (by decide) rfl ?_
      refine z_perm (lc' := [(5, .int (nI 0)), (4, .int (nI 7)), (0, .ref m), (1, .int (nI fr)), (2, .int (nI rs.length))]) (fun q hq => by simp only [List.mem_cons, List.not_mem_nil, or_false] at hq ⊢; rcases hq with h | h | h | h | h <;> simp [h]) ?_
      exact loop3 0 M1 (Nat.zero_le _) k1 b1
    · refine g_aload_n (q := 110) hx d_Mo_write_109 rfl rfl ?_
      refine g_aload_n (q := 111) hx d_Mo_write_110 rfl rfl ?_
      refine g_geta (q := 114) hx d_Mo_write_111 rfl fl_Mo_37 hq.g0 (hq.p10 hP) (by first | exact Nat.succ_ne_zero _ | omega) ?_
      refine g_iload (q := 116) hx d_Mo_write_114 rfl rfl ?_
      refine g_iald (q := 117) hx d_Mo_write_116 rfl hq.g10 rfl (by omega) (by decide) (r2 k (by omega)) ?_
      refine g_cv (q := 120) (zrunV hx d_Mo_write_117 lk_Mo_131 rfl rfl hq.g0 rfl rfl (Nat.le_of_ble_eq_true rfl) (by decide) (by omega) (by omega) (c_Mo_add _ E Γ n _ m (3 + k) (mBlk0 ref rs) _ (by rw [k1.r]; exact hq0) b1 (by omega) (congrArg nI (by unfold mBlk0; rw [if_neg (by omega), if_neg (by omega), if_neg (by omega), Nat.add_sub_cancel_left])))) rfl (fun M117 p117 => ?_)
      obtain ⟨v1, v2⟩ := p117
      refine g_iinc (q := 123) (lc' := [(4, _), (3, _), (0, _), (1, _), (2, _)]) hx d_Mo_write_120 rfl rfl (z_inc _) (by decide) rfl ?_
      refine g_goto (q := 100) hx d_Mo_write_123 rfl ?_
      exact ih (k + 1) M117 (by omega) b (by omega) (k1.tr (v1.mono bB_W bBI_W (bN_ _))) v2 ((v1.i 17 rfl).trans r1) (fun j hj => (v1.a 10 (by decide) rfl j).trans (r2 j hj))
  have part2 : ∀ (M1 : zM) (i b : Nat), kF bCA bCI bCL m M M1 → qE M1 m (mSt ref rs) → zGo f E Γ n (0, 0) M1 60 [(4, .int (nI i)), (3, .int (nI b)), (0, .ref m), (1, .int (nI fr)), (2, .int (nI rs.length))] [] := by
    intro M1 i b k1 hE
    replace hP := k1.r
    refine g_aload_n (q := 61) hx d_Mo_write_60 rfl rfl ?_
    refine g_cv (q := 64) (zrunV hx d_Mo_write_61 lk_Mo_128 rfl rfl hq.g0 rfl rfl (Nat.le_of_ble_eq_true rfl) (by decide) (by omega) (by omega) (c_Mo_seal _ E Γ n _ m (mSt ref rs).2.2.2.1 (mSt ref rs) (by rw [k1.r]; exact hq0) rfl hE.1 hst.1.1 hE.2.2.2.1 hE.2.2.2.2 (by omega) hst.1.2.2.2.2.1)) rfl (fun M61 p61 => ?_)
    obtain ⟨v1, r1, r2⟩ := p61
    replace k1 : kF bWA bWI bCL m M M61 := (k1.mono bC_W bCI_W (zSb_rf _)).tr (v1.mono bR_W bCI_W (bN_ _))
    replace hP := k1.r
    replace r1 : zi M61 m 17 = nI (mRl ref rs) := r1
    refine g_aload_n (q := 65) hx d_Mo_write_64 rfl rfl ?_
    refine g_iconst (q := 66) (v := nI 0) hx d_Mo_write_65 rfl (by decide) ?_
    refine g_puti (q := 69) hx d_Mo_write_66 rfl fl_Mo_119 nf_7_22 hq.g0 ?_
    replace k1 := k1.si (k := 22) (v := nI 0) rfl
    have b1 : pB _ m 0 (mBlk0 ref rs) := ⟨zi_s M61 m 22 (nI 0), fun j hj => absurd hj (Nat.not_lt_zero _)⟩
    refine g_aload_n (q := 70) hx d_Mo_write_69 rfl rfl ?_
    refine g_iload_n (q := 71) hx d_Mo_write_70 rfl rfl ?_
    refine g_cv (q := 74) (zrunV hx d_Mo_write_71 lk_Mo_131 rfl rfl hq.g0 rfl rfl (Nat.le_of_ble_eq_true rfl) (by decide) (by omega) (by omega) (c_Mo_add _ E Γ n _ m 0 (mBlk0 ref rs) _ (by rw [k1.r]; exact hq0) b1 (by omega) rfl)) rfl (fun M71 p71 => ?_)
    obtain ⟨x1, x2⟩ := p71
    replace k1 := k1.tr (x1.mono bB_W bBI_W (bN_ _))
    replace b1 := x2
    replace hP := k1.r
    refine g_aload_n (q := 75) hx d_Mo_write_74 rfl rfl ?_
    refine g_aload_n (q := 76) hx d_Mo_write_75 rfl rfl ?_
    refine g_geta (q := 79) hx d_Mo_write_76 rfl fl_Mo_13 hq.g0 (hq.p2 hP) (by first | exact Nat.succ_ne_zero _ | omega) ?_
    refine g_aload_n (q := 80) hx d_Mo_write_79 rfl rfl ?_
    refine g_geta (q := 83) hx d_Mo_write_80 rfl fl_Mo_43 hq.g0 (hq.p12 hP) (by first | exact Nat.succ_ne_zero _ | omega) ?_
    refine g_iload_n (q := 84) hx d_Mo_write_83 rfl rfl ?_
    refine g_iald (q := 85) hx d_Mo_write_84 rfl hq.g12 rfl (by omega) (by decide) ((k1.a 12 (by decide) rfl _).trans ho0) ?_
    refine g_iald (q := 86) hx d_Mo_write_85 rfl hq.g2 rfl (by omega) (by decide) ((k1.a 2 (by decide) rfl _).trans (hS 0 (by omega)).1) ?_
    refine g_cv (q := 89) (zrunV hx d_Mo_write_86 lk_Mo_131 rfl rfl hq.g0 rfl rfl (Nat.le_of_ble_eq_true rfl) (by decide) (by omega) (by omega) (c_Mo_add _ E Γ n _ m 1 (mBlk0 ref rs) _ (by rw [k1.r]; exact hq0) b1 (by omega) (congrArg nI (mAt_0 (by omega))))) rfl (fun M86 p86 => ?_)
    obtain ⟨y1, y2⟩ := p86
    replace k1 := k1.tr (y1.mono bB_W bBI_W (bN_ _))
    replace b1 := y2
    replace hP := k1.r
    refine g_aload_n (q := 90) hx d_Mo_write_89 rfl rfl ?_
    refine g_aload_n (q := 91) hx d_Mo_write_90 rfl rfl ?_
    refine g_geti (q := 94) hx d_Mo_write_91 rfl fl_Mo_91 hq.g0 ((y1.i 17 rfl).trans ((x1.i 17 rfl).trans ((zi_k (by decide)).trans r1))) ?_
    refine g_cv (q := 97) (zrunV hx d_Mo_write_94 lk_Mo_131 rfl rfl hq.g0 rfl rfl (Nat.le_of_ble_eq_true rfl) (by decide) (by omega) (by omega) (c_Mo_add _ E Γ n _ m 2 (mBlk0 ref rs) _ (by rw [k1.r]; exact hq0) b1 (by omega) rfl)) rfl (fun M94 p94 => ?_)
    obtain ⟨w1, w2⟩ := p94
    replace k1 := k1.tr (w1.mono bB_W bBI_W (bN_ _))
    refine g_iconst (q := 98) (v := nI 0) hx d_Mo_write_97 rfl (by decide) ?_
    refine g_istore (q := 100) (lc' := [(4, _), (3, _), (0, _), (1, _), (2, _)]) hx d_Mo_write_98 rfl (by decide) rfl ?_
    refine z_perm (lc' := [(4, .int (nI 0)), (3, .int (nI b)), (0, .ref m), (1, .int (nI fr)), (2, .int (nI rs.length))]) (fun q hq => by simp only [List.mem_cons, List.not_mem_nil, or_false] at hq ⊢; rcases hq with h | h | h | h | h <;> simp [h]) ?_
    exact loop2 0 M94 b (Nat.zero_le _) k1 w2 ((w1.i 17 rfl).trans ((y1.i 17 rfl).trans ((x1.i 17 rfl).trans ((zi_k (by decide)).trans r1)))) (fun j hj => (w1.a 10 (by decide) rfl j).trans ((y1.a 10 (by decide) rfl j).trans ((x1.a 10 (by decide) rfl j).trans ((zi_a (by omega)).trans (r2 j (by omega))))))
  have loop1 : ∀ (i : Nat) (M1 : zM), ∀ (s1 : mEn) (b : Nat), i ≤ rs.length → qC M m M1 (s1, mBits ref b (rs.drop i) ++ []) → mPuts s1 (mBits ref b (rs.drop i)) = mSt ref rs → (i < rs.length → b ≤ (mAt rs i).1) → zGo f E Γ n (0, 0) M1 19 [(4, .int (nI i)), (3, .int (nI b)), (0, .ref m), (1, .int (nI fr)), (2, .int (nI rs.length))] [] := by
    refine z_lp (fun i => rs.length - i) _ ?_
    intro i M1 ih s1 b hi hI hF hb
    replace hP := hI.1.r
    refine g_iload (q := 21) hx d_Mo_write_19 rfl rfl ?_
    refine g_iload_n (q := 22) hx d_Mo_write_21 rfl rfl ?_
    refine g_icmp_ge (q := 25) (t := 60) hx d_Mo_write_22 rfl rfl (nI_leI (by omega) (by omega)) (fun h22 => ?_) (fun h22 => ?_)
    · have hde : rs.drop i = [] := List.drop_eq_nil_of_le (by omega)
      rw [hde] at hI hF
      exact part2 M1 i b hI.1 (by have h9 : s1 = mSt ref rs := hF; rw [← h9]; exact hI.2.1)
    · have hdr := mAt_drop (rs := rs) (i := i) (by omega)
      rw [hdr] at hI hF
      simp only [mBits, List.append_assoc] at hI
      simp only [mBits, mPuts_app] at hF
      have hoi := ho i (by omega)
      refine g_aload_n (q := 26) hx d_Mo_write_25 rfl rfl ?_
      refine g_aload_n (q := 27) hx d_Mo_write_26 rfl rfl ?_
      refine g_geta (q := 30) hx d_Mo_write_27 rfl fl_Mo_43 hq.g0 (hq.p12 hP) (by first | exact Nat.succ_ne_zero _ | omega) ?_
      refine g_iload_n (q := 31) hx d_Mo_write_30 rfl rfl ?_
      refine g_iload (q := 33) hx d_Mo_write_31 rfl rfl ?_
      refine g_iadd (q := 34) hx d_Mo_write_33 rfl (nI_add _ _) ?_
      refine g_iald (q := 35) hx d_Mo_write_34 rfl hq.g12 rfl (by omega) (by decide) ((hI.1.a 12 (by decide) rfl _).trans hoi.1) ?_
      refine g_iload_n (q := 36) hx d_Mo_write_35 rfl rfl ?_
      refine g_cv (q := 39) (zrunV hx d_Mo_write_36 lk_Mo_125 rfl rfl hq.g0 rfl rfl (Nat.le_of_ble_eq_true rfl) (by decide) (by omega) (by omega) (c_Mo_putRead _ E Γ n M _ m (o i) b len ref (mAt rs i) s1 _ hq0 hI (hS i (by omega)) hoi.2 hR (hok i (by omega)) (hb (by omega)))) rfl (fun M36 p36 => ?_)
      replace hI := p36
      replace hP := hI.1.r
      refine g_aload_n (q := 40) hx d_Mo_write_39 rfl rfl ?_
      refine g_geta (q := 43) hx d_Mo_write_40 rfl fl_Mo_13 hq.g0 (hq.p2 hP) (by first | exact Nat.succ_ne_zero _ | omega) ?_
      refine g_aload_n (q := 44) hx d_Mo_write_43 rfl rfl ?_
      refine g_geta (q := 47) hx d_Mo_write_44 rfl fl_Mo_43 hq.g0 (hq.p12 hP) (by first | exact Nat.succ_ne_zero _ | omega) ?_
      refine g_iload_n (q := 48) hx d_Mo_write_47 rfl rfl ?_
      refine g_iload (q := 50) hx d_Mo_write_48 rfl rfl ?_
      refine g_iadd (q := 51) hx d_Mo_write_50 rfl (nI_add _ _) ?_
      refine g_iald (q := 52) hx d_Mo_write_51 rfl hq.g12 rfl (by omega) (by decide) ((hI.1.a 12 (by decide) rfl _).trans hoi.1) ?_
      refine g_iald (q := 53) hx d_Mo_write_52 rfl hq.g2 rfl (by omega) (by decide) ((hI.1.a 2 (by decide) rfl _).trans (hS i (by omega)).1) ?_
      refine g_istore_n (q := 54) (lc' := [(3, _), (4, _), (0, _), (1, _), (2, _)]) hx d_Mo_write_53 rfl (by decide) rfl ?_
      refine g_iinc (q := 57) (lc' := [(4, _), (3, _), (0, _), (1, _), (2, _)]) hx d_Mo_write_54 rfl rfl (z_inc _) (by decide) rfl ?_
      refine g_goto (q := 19) hx d_Mo_write_57 rfl ?_
      refine z_perm (lc' := [(4, .int (nI (i + 1))), (3, .int (nI (mAt rs i).1)), (0, .ref m), (1, .int (nI fr)), (2, .int (nI rs.length))]) (fun q hq => by simp only [List.mem_cons, List.not_mem_nil, or_false] at hq ⊢; rcases hq with h | h | h | h | h <;> simp [h]) ?_
      exact ih (i + 1) M36 (by omega) _ _ (by omega) (by rw [List.append_nil] at hI ⊢; exact hI) hF (fun h => hsort i h)
  refine g_aload_n (q := 1) hx d_Mo_write_0 rfl rfl ?_
  refine g_cv (q := 4) (zrunV hx d_Mo_write_1 lk_Mo_122 rfl rfl hq.g0 rfl rfl (Nat.le_of_ble_eq_true rfl) (by decide) (by omega) (by omega) (c_Mo_fresh _ E Γ n _ m hq0)) rfl (fun M1 p1 => ?_)
  obtain ⟨k1, hE⟩ := p1
  replace hP := k1.r
  refine g_aload_n (q := 5) hx d_Mo_write_4 rfl rfl ?_
  refine g_geta (q := 8) hx d_Mo_write_5 rfl fl_Mo_13 hq.g0 (hq.p2 hP) (by first | exact Nat.succ_ne_zero _ | omega) ?_
  refine g_aload_n (q := 9) hx d_Mo_write_8 rfl rfl ?_
  refine g_geta (q := 12) hx d_Mo_write_9 rfl fl_Mo_43 hq.g0 (hq.p12 hP) (by first | exact Nat.succ_ne_zero _ | omega) ?_
  refine g_iload_n (q := 13) hx d_Mo_write_12 rfl rfl ?_
  refine g_iald (q := 14) hx d_Mo_write_13 rfl hq.g12 rfl (by omega) (by decide) ((k1.a 12 (by decide) rfl _).trans ho0) ?_
  refine g_iald (q := 15) hx d_Mo_write_14 rfl hq.g2 rfl (by omega) (by decide) ((k1.a 2 (by decide) rfl _).trans (hS 0 (by omega)).1) ?_
  refine g_istore_n (q := 16) (lc' := [(3, _), (0, _), (1, _), (2, _)]) hx d_Mo_write_15 rfl (by decide) rfl ?_
  refine g_iconst (q := 17) (v := nI 0) hx d_Mo_write_16 rfl (by decide) ?_
  refine g_istore (q := 19) (lc' := [(4, _), (3, _), (0, _), (1, _), (2, _)]) hx d_Mo_write_17 rfl (by decide) rfl ?_
  exact loop1 0 M1 (mE0 (fun _ => 0)) (mAt rs 0).1 (Nat.zero_le _) ⟨k1, hE, hcan⟩ (by rw [mAt_0 (by omega)]; rfl) (fun _ => Nat.le_refl _)
