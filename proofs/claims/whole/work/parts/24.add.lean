/-- behind the bases and the places that are passed -/
def pA5 (M M5 : zM) (a : Nat) (ref : Nat → Nat) (rd : mRd) (e : Nat × Nat) : Prop := zOn (fun b => b = a ∨ b = a + 3) M M5 ∧ zi M5 a 3 = nI rd.1 ∧ zi M5 a 4 = nI rd.2.length ∧ zi M5 a 5 = nI (mBc rd.2 + mCnt e) ∧ zi M5 a 6 = nI (mPs rd.2 + mAdv e) ∧ (∀ j, j < mBc rd.2 → zi M5 (a + 3) j = zi M (a + 3) j) ∧ ∀ j, j < mCnt e → zi M5 (a + 3) (mBc rd.2 + j) = nI (if e.1 = 0 then ref (rd.1 + mPs rd.2 + j) else e.2)
theorem pA5_of {M M4 : zM} {a : Nat} {ref : Nat → Nat} {rd : mRd} {e : Nat × Nat} (hd : pRd M a rd) (h : pAb M M4 a (mBc rd.2) (rd.1 + mPs rd.2) ref e) {v : Nat} (hv : v = mPs rd.2 + mAdv e) : pA5 M (zsi M4 a 6 (nI v)) a ref rd e := by
  obtain ⟨h1, h2, h3, h4, h5⟩ := h
  subst hv
  exact ⟨h1.si (Or.inl rfl), by rw [zi_k (by omega), h3 3 (by omega)]; exact hd.1, by rw [zi_k (by omega), h3 4 (by omega)]; exact hd.2.1, by rw [zi_k (by omega)]; exact h2, zi_s _ _ _ _, fun j hj => by rw [zi_a (by omega)]; exact h4 j hj, fun j hj => by rw [zi_a (by omega)]; exact h5 j hj⟩
theorem pA5_of0 {M M4 : zM} {a : Nat} {ref : Nat → Nat} {rd : mRd} {e : Nat × Nat} (hd : pRd M a rd) (h : pAb M M4 a (mBc rd.2) (rd.1 + mPs rd.2) ref e) (hv : mAdv e = 0) : pA5 M M4 a ref rd e := by
  obtain ⟨h1, h2, h3, h4, h5⟩ := h
  exact ⟨h1, by rw [h3 3 (by omega)]; exact hd.1, by rw [h3 4 (by omega)]; exact hd.2.1, h2, by rw [h3 6 (by omega), hv]; exact hd.2.2.2.1, h4, h5⟩
/-- what add leaves -/
def pAd (M M' : zM) (a : Nat) (ref : Nat → Nat) (rd : mRd) (e : Nat × Nat) : Prop := zOn (fun b => a ≤ b ∧ b ≤ a + 3) M M' ∧ pRd M' a (rd.1, mAdd rd.2 e) ∧ (pBs M a ref rd → pBs M' a ref (rd.1, mAdd rd.2 e))
theorem pAd_bs {M M5 M' : zM} {a : Nat} {ref : Nat → Nat} {rd : mRd} {e : Nat × Nat} (h : pA5 M M5 a ref rd e) (h3 : M'.1 (a + 3) = M5.1 (a + 3)) (hb : pBs M a ref rd) : pBs M' a ref (rd.1, mAdd rd.2 e) := by
  intro k hk
  dsimp only at hk ⊢
  show M'.1 (a + 3) k = _
  rw [h3]
  show zi M5 (a + 3) k = _
  rw [mBc_add] at hk
  by_cases c : k < mBc rd.2
  · rw [h.2.2.2.2.2.1 k c, mBase_lo c]; exact hb k c
  · obtain ⟨j, rfl⟩ : ∃ j, k = mBc rd.2 + j := ⟨k - mBc rd.2, by omega⟩
    rw [h.2.2.2.2.2.2 j (by omega), mBase_hi (by omega)]
theorem pAd_j {M M5 : zM} {a : Nat} {ref : Nat → Nat} {rd : mRd} {e : Nat × Nat} (hd : pRd M a rd) (h : pA5 M M5 a ref rd e) (hj : mJn rd.2 e.1) : pAd M (zsi M5 (a + 2) (rd.2.length - 1) (nI (mV rd.2 (rd.2.length - 1) + e.2))) a ref rd e := by
  have hh := h
  obtain ⟨h1, h2, h3, h4, h5, h6, h7⟩ := h
  have hl := hj.2.1
  refine ⟨(h1.mono (fun b hb => by omega)).si ⟨by omega, by omega⟩, ⟨by rw [zi_a (by omega)]; exact h2, by rw [zi_a (by omega), h3, mAdd_len hj], by rw [zi_a (by omega), h4, mBc_add], by rw [zi_a (by omega), h5, mPs_add], fun j hj9 => ?_⟩, pAd_bs hh (zi_b (by omega))⟩
  dsimp only at hj9 ⊢
  rw [mAdd_len hj] at hj9
  refine ⟨?_, ?_⟩
  · rw [zi_a (by omega), mAdd_K hj hj9, h1.i (by omega)]; exact (hd.2.2.2.2 j hj9).1
  · by_cases c : j = rd.2.length - 1
    · rw [c, zi_s, mAdd_Vl hj]
    · rw [zi_k c, mAdd_V hj (by omega), h1.i (by omega)]; exact (hd.2.2.2.2 j hj9).2
theorem pAd_n {M M5 : zM} {a : Nat} {ref : Nat → Nat} {rd : mRd} {e : Nat × Nat} (hd : pRd M a rd) (h : pA5 M M5 a ref rd e) (hj : ¬ mJn rd.2 e.1) : pAd M (zsi (zsi (zsi M5 (a + 1) rd.2.length (nI e.1)) (a + 2) rd.2.length (nI e.2)) a 4 (nI (rd.2.length + 1))) a ref rd e := by
  have hh := h
  obtain ⟨h1, h2, h3, h4, h5, h6, h7⟩ := h
  refine ⟨(((h1.mono (fun b hb => by omega)).si ⟨by omega, by omega⟩).si ⟨by omega, by omega⟩).si ⟨by omega, by omega⟩, ⟨?_, ?_, ?_, ?_, fun j hj9 => ?_⟩, pAd_bs hh (by rw [zi_b (by omega), zi_b (by omega), zi_b (by omega)])⟩
  · rw [zi_k (by omega), zi_a (by omega), zi_a (by omega)]; exact h2
  · rw [zi_s, mAdd_len' hj]
  · rw [zi_k (by omega), zi_a (by omega), zi_a (by omega), h4, mBc_add]
  · rw [zi_k (by omega), zi_a (by omega), zi_a (by omega), h5, mPs_add]
  · dsimp only at hj9 ⊢
    rw [mAdd_len' hj] at hj9
    rw [mAdd_n hj]
    by_cases c : j = rd.2.length
    · subst c
      refine ⟨?_, ?_⟩
      · rw [zi_a (by omega), zi_a (by omega), zi_s, mK_hi]
      · rw [zi_a (by omega), zi_s, mV_hi]
    · have hj8 : j < rd.2.length := by omega
      refine ⟨?_, ?_⟩
      · rw [zi_a (by omega), zi_a (by omega), zi_k c, mK_lo hj8, h1.i (by omega)]; exact (hd.2.2.2.2 j hj8).1
      · rw [zi_a (by omega), zi_k c, zi_a (by omega), mV_lo hj8, h1.i (by omega)]; exact (hd.2.2.2.2 j hj8).2
set_option maxHeartbeats 4000000 in
set_option maxRecDepth 100000 in
/-- add(reference, kind, number), of an edit that fits and has room -/
theorem c_Rd_add (l : Launch) (E : zE) (Γ : zG) (n : Nat) (M : zM) (a r len : Nat) (ref : Nat → Nat) (rd : mRd) (k m : Nat) (hs : pSh Γ M.2.2 a) (hrs : pRs Γ M.2.2 r) (hd : pRd M a rd) (hf : pRf M r len ref) (hfit : mFit ref len (rd.1 + mPs rd.2) (k, m)) (hroom : mRoom rd.2 (k, m)) (h12 : rd.2.length ≤ 12) (hks : mKs rd.2) :
    zCt l E Y_Rd_add 2 (0, 0) [.ref a, .ref r, .int (nI k), .int (nI m)] Γ n M (zPv Γ n (fun M' => pAd M M' a ref rd (k, m))) := by
  refine zCt.of [(0, .ref a), (1, .ref r), (2, .int (nI k)), (3, .int (nI m))] (by decide) (Nat.le_of_ble_eq_true rfl) rfl (fun f hfl hx hQ => ?_)
  have hs0 := hs
  have hrs0 := hrs
  have hd0 := hd
  have hk : k < 4 := mFit_kind hfit
  obtain ⟨⟨ha, ha1, ha2, ha3⟩, p0, p1, p2, ha0⟩ := hs
  have p0 : zr M a 0 = a + 1 := p0
  have p1 : zr M a 1 = a + 2 := p1
  have p2 : zr M a 2 = a + 3 := p2
  obtain ⟨hr, hrb, pr, hr0⟩ := hrs
  have pr : zr M r 0 = r + 1 := pr
  obtain ⟨q1, q2, q3, q4, q5⟩ := hd
  have J : ∀ M5 : zM, pA5 M M5 a ref rd (k, m) → zGo f E Γ n (0, 0) M5 44 [(0, .ref a), (1, .ref r), (2, .int (nI k)), (3, .int (nI m))] [] := by
    intro M5 h5
    have hr5 : M5.2.2 = M.2.2 := h5.1.r
    have hs5 : pSh Γ M5.2.2 a := by rw [hr5]; exact hs0
    have p0 : zr M5 a 0 = a + 1 := by show M5.2.2 a 0 = _; rw [hr5]; exact p0
    have p1 : zr M5 a 1 = a + 2 := by show M5.2.2 a 1 = _; rw [hr5]; exact p1
    have h54 := h5.2.2.1
    have hK5 : ∀ j, j < rd.2.length → zi M5 (a + 1) j = nI (mK rd.2 j) := fun j hj => by rw [h5.1.i (by omega)]; exact (q5 j hj).1
    have hV5 : ∀ j, j < rd.2.length → zi M5 (a + 2) j = nI (mV rd.2 j) := fun j hj => by rw [h5.1.i (by omega)]; exact (q5 j hj).2
    refine g_aload_n (q := 45) hx d_Rd_add_44 rfl rfl ?_
    refine g_iload_n (q := 46) hx d_Rd_add_45 rfl rfl ?_
    refine g_ci (q := 49) (zrunV hx d_Rd_add_46 lk_Rd_48 rfl rfl (by assumption) rfl rfl (Nat.le_of_ble_eq_true rfl) (by decide) (by omega) (by omega) (c_Rd_lengthensLast _ E Γ n _ a rd.2 (nI k) hs5 h54 hK5 h12)) rfl (fun r46 M46 p46 => ?_)
    obtain ⟨rfl, p46⟩ := p46
    rcases p46 with ⟨rfl, hz⟩ | ⟨rfl, hz⟩ <;> rw [zLen_iff hk hks] at hz
    · have hl0 := hz.2.1
      refine g_if_eq (q := 52) (t := 70) hx d_Rd_add_49 rfl rfl (zb_eq0 (by omega)) (fun h49 => ?_) (fun h49 => ?_)
      · exact absurd h49 (by omega)
      · refine g_aload_n (q := 53) hx d_Rd_add_52 rfl rfl ?_
        refine g_geta (q := 56) hx d_Rd_add_53 rfl fl_Rd_15 (by assumption) (by assumption) (by omega) ?_
        refine g_aload_n (q := 57) hx d_Rd_add_56 rfl rfl ?_
        refine g_geti (q := 60) hx d_Rd_add_57 rfl fl_Rd_25 (by assumption) (by assumption) ?_
        refine g_iconst (q := 61) (v := nI 1) hx d_Rd_add_60 rfl (by decide) ?_
        refine g_isub (q := 62) hx d_Rd_add_61 rfl (pk_sub (by omega)) ?_
        refine g_dup2 (q := 63) hx d_Rd_add_62 rfl rfl rfl ?_
        refine g_iald (q := 64) hx d_Rd_add_63 rfl (by assumption) rfl (by omega) (by decide) (hV5 _ (by omega)) ?_
        refine g_iload_n (q := 65) hx d_Rd_add_64 rfl rfl ?_
        refine g_iadd (q := 66) hx d_Rd_add_65 rfl (nI_add _ _) ?_
        refine g_iast (q := 67) hx d_Rd_add_66 rfl (by assumption) rfl (by omega) (by decide) ?_
        refine g_goto (q := 100) hx d_Rd_add_67 rfl ?_
        exact g_vret hx d_Rd_add_100 rfl hQ ⟨Nat.le_refl _, Nat.le_refl _⟩ ⟨rfl, rfl, rfl, by first | exact pAd_j hd0 h5 hz | exact pAd_n hd0 h5 hz⟩
    · have hl12 : rd.2.length < 12 := hroom.2.elim (fun q => absurd q hz) id
      refine g_if_eq (q := 52) (t := 70) hx d_Rd_add_49 rfl rfl (zb_eq0 (by omega)) (fun h49 => ?_) (fun h49 => ?_)
      · refine g_aload_n (q := 71) hx d_Rd_add_70 rfl rfl ?_
        refine g_geta (q := 74) hx d_Rd_add_71 rfl fl_Rd_9 (by assumption) (by assumption) (by omega) ?_
        refine g_aload_n (q := 75) hx d_Rd_add_74 rfl rfl ?_
        refine g_geti (q := 78) hx d_Rd_add_75 rfl fl_Rd_25 (by assumption) (by assumption) ?_
        refine g_iload_n (q := 79) hx d_Rd_add_78 rfl rfl ?_
        refine g_iast (q := 80) hx d_Rd_add_79 rfl (by assumption) rfl (by omega) (by decide) ?_
        refine g_aload_n (q := 81) hx d_Rd_add_80 rfl rfl ?_
        refine g_geta (q := 84) hx d_Rd_add_81 rfl fl_Rd_15 (by assumption) (by assumption) (by omega) ?_
        refine g_aload_n (q := 85) hx d_Rd_add_84 rfl rfl ?_
        refine g_geti (q := 88) hx d_Rd_add_85 rfl fl_Rd_25 (by assumption) ((zi_a (by omega)).trans h54) ?_
        refine g_iload_n (q := 89) hx d_Rd_add_88 rfl rfl ?_
        refine g_iast (q := 90) hx d_Rd_add_89 rfl (by assumption) rfl (by omega) (by decide) ?_
        refine g_aload_n (q := 91) hx d_Rd_add_90 rfl rfl ?_
        refine g_dup (q := 92) hx d_Rd_add_91 rfl rfl ?_
        refine g_geti (q := 95) hx d_Rd_add_92 rfl fl_Rd_25 (by assumption) ((zi_a (by omega)).trans ((zi_a (by omega)).trans h54)) ?_
        refine g_iconst (q := 96) (v := nI 1) hx d_Rd_add_95 rfl (by decide) ?_
        refine g_iadd (q := 97) hx d_Rd_add_96 rfl (nI_add _ _) ?_
        refine g_puti (q := 100) hx d_Rd_add_97 rfl fl_Rd_25 nf_3_4 (by assumption) ?_
        exact g_vret hx d_Rd_add_100 rfl hQ ⟨Nat.le_refl _, Nat.le_refl _⟩ ⟨rfl, rfl, rfl, by first | exact pAd_j hd0 h5 hz | exact pAd_n hd0 h5 hz⟩
      · exact absurd h49 (by omega)
  refine g_aload_n (q := 1) hx d_Rd_add_0 rfl rfl ?_
  refine g_aload_n (q := 2) hx d_Rd_add_1 rfl rfl ?_
  refine g_iload_n (q := 3) hx d_Rd_add_2 rfl rfl ?_
  refine g_iload_n (q := 4) hx d_Rd_add_3 rfl rfl ?_
  refine g_cv (q := 7) (zrunV hx d_Rd_add_4 lk_Rd_51 rfl rfl (by assumption) rfl rfl (Nat.le_of_ble_eq_true rfl) (by decide) (by omega) (by omega) (c_Rd_addBases _ E Γ n _ a r len ref rd k m hs0 hrs0 hd0 hf hfit hroom.1)) rfl (fun M4 p4 => ?_)
  refine g_iload_n (q := 8) hx d_Rd_add_7 rfl rfl ?_
  refine g_if_eq (q := 11) (t := 16) hx d_Rd_add_8 rfl rfl (zb_eq0 (by omega)) (fun h8 => ?_) (fun h8 => ?_)
  · refine g_aload_n (q := 17) hx d_Rd_add_16 rfl rfl ?_
    refine g_dup (q := 18) hx d_Rd_add_17 rfl rfl ?_
    refine g_geti (q := 21) hx d_Rd_add_18 rfl fl_Rd_31 (by assumption) ((p4.2.2.1 6 (by omega)).trans q4) ?_
    refine g_iload_n (q := 22) hx d_Rd_add_21 rfl rfl ?_
    refine g_iadd (q := 23) hx d_Rd_add_22 rfl (nI_add _ _) ?_
    refine g_puti (q := 26) hx d_Rd_add_23 rfl fl_Rd_31 nf_3_6 (by assumption) ?_
    refine g_goto (q := 44) hx d_Rd_add_26 rfl ?_
    first | exact J _ (pA5_of hd0 p4 (by unfold mAdv; dsimp only; first | rw [if_pos (by omega)] | rw [if_neg (by omega), if_pos (by omega)])) | exact J _ (pA5_of0 hd0 p4 (by unfold mAdv; dsimp only; rw [if_neg (by omega), if_neg (by omega)]))
  · refine g_iload_n (q := 12) hx d_Rd_add_11 rfl rfl ?_
    refine g_iconst (q := 13) (v := nI 3) hx d_Rd_add_12 rfl (by decide) ?_
    refine g_icmp_ne (q := 16) (t := 29) hx d_Rd_add_13 rfl rfl (not_congr (nI_eq (by omega) (by omega))) (fun h13 => ?_) (fun h13 => ?_)
    · refine g_iload_n (q := 30) hx d_Rd_add_29 rfl rfl ?_
      refine g_iconst (q := 31) (v := nI 1) hx d_Rd_add_30 rfl (by decide) ?_
      refine g_icmp_ne (q := 34) (t := 44) hx d_Rd_add_31 rfl rfl (not_congr (nI_eq (by omega) (by omega))) (fun h31 => ?_) (fun h31 => ?_)
      · first | exact J _ (pA5_of hd0 p4 (by unfold mAdv; dsimp only; first | rw [if_pos (by omega)] | rw [if_neg (by omega), if_pos (by omega)])) | exact J _ (pA5_of0 hd0 p4 (by unfold mAdv; dsimp only; rw [if_neg (by omega), if_neg (by omega)]))
      · refine g_aload_n (q := 35) hx d_Rd_add_34 rfl rfl ?_
        refine g_dup (q := 36) hx d_Rd_add_35 rfl rfl ?_
        refine g_geti (q := 39) hx d_Rd_add_36 rfl fl_Rd_31 (by assumption) ((p4.2.2.1 6 (by omega)).trans q4) ?_
        refine g_iconst (q := 40) (v := nI 1) hx d_Rd_add_39 rfl (by decide) ?_
        refine g_iadd (q := 41) hx d_Rd_add_40 rfl (nI_add _ _) ?_
        refine g_puti (q := 44) hx d_Rd_add_41 rfl fl_Rd_31 nf_3_6 (by assumption) ?_
        first | exact J _ (pA5_of hd0 p4 (by unfold mAdv; dsimp only; first | rw [if_pos (by omega)] | rw [if_neg (by omega), if_pos (by omega)])) | exact J _ (pA5_of0 hd0 p4 (by unfold mAdv; dsimp only; rw [if_neg (by omega), if_neg (by omega)]))
    · refine g_aload_n (q := 17) hx d_Rd_add_16 rfl rfl ?_
      refine g_dup (q := 18) hx d_Rd_add_17 rfl rfl ?_
      refine g_geti (q := 21) hx d_Rd_add_18 rfl fl_Rd_31 (by assumption) ((p4.2.2.1 6 (by omega)).trans q4) ?_
      refine g_iload_n (q := 22) hx d_Rd_add_21 rfl rfl ?_
      refine g_iadd (q := 23) hx d_Rd_add_22 rfl (nI_add _ _) ?_
      refine g_puti (q := 26) hx d_Rd_add_23 rfl fl_Rd_31 nf_3_6 (by assumption) ?_
      refine g_goto (q := 44) hx d_Rd_add_26 rfl ?_
      first | exact J _ (pA5_of hd0 p4 (by unfold mAdv; dsimp only; first | rw [if_pos (by omega)] | rw [if_neg (by omega), if_pos (by omega)])) | exact J _ (pA5_of0 hd0 p4 (by unfold mAdv; dsimp only; rw [if_neg (by omega), if_neg (by omega)]))
