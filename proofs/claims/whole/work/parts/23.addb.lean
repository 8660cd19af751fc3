theorem zi_cpn {M : zM} {a0 a sp dp c b j : Nat} (h : b ≠ a) : zi (zcp M a0 a sp dp c) b j = zi M b j := by rw [zi_cp, if_neg (fun q => h q.1)]
/-- what addBases leaves -/
def pAb (M M' : zM) (a bc at_ : Nat) (ref : Nat → Nat) (e : Nat × Nat) : Prop := zOn (fun b => b = a ∨ b = a + 3) M M' ∧ zi M' a 5 = nI (bc + mCnt e) ∧ (∀ j, j ≠ 5 → zi M' a j = zi M a j) ∧ (∀ j, j < bc → zi M' (a + 3) j = zi M (a + 3) j) ∧ ∀ j, j < mCnt e → zi M' (a + 3) (bc + j) = nI (if e.1 = 0 then ref (at_ + j) else e.2)
theorem pAb0 {M : zM} {a r bc at_ m len : Nat} {ref : Nat → Nat} (hf : pRf M r len ref) (hl : at_ + m ≤ len) : pAb M (zsi (zcp M (r + 1) (a + 3) at_ bc m) a 5 (nI (bc + m))) a bc at_ ref (0, m) := by
  have hc : mCnt (0, m) = m := rfl
  refine ⟨⟨rfl, fun b hb => ?_⟩, by rw [zi_s, hc], fun j hj => by rw [zi_k hj, zi_cpn (by omega)], fun j hj => ?_, fun j hj => ?_⟩
  · rw [zi_b (fun q => hb (Or.inl q))]
    exact va_up_ne _ _ (fun q => hb (Or.inr q))
  · rw [zi_a (by omega), zi_cp, if_neg (by omega)]
  · rw [hc] at hj
    rw [zi_a (by omega), zi_cp, if_pos ⟨rfl, by omega, by omega⟩, if_pos rfl, show at_ + (bc + j - bc) = at_ + j by omega]
    exact hf.2.1 _ (by omega)
theorem pAb3 {M : zM} {a bc at_ m : Nat} {ref : Nat → Nat} (h5 : zi M a 5 = nI bc) : pAb M M a bc at_ ref (3, m) :=
  ⟨zOn.rf, by rw [h5]; rfl, fun _ _ => rfl, fun _ _ => rfl, fun j hj => absurd hj (by simp [mCnt])⟩
theorem pAb1 {M : zM} {a bc at_ k m : Nat} {ref : Nat → Nat} (h0 : k ≠ 0) (h3 : k ≠ 3) : pAb M (zsi (zsi M (a + 3) bc (nI m)) a 5 (nI (bc + 1))) a bc at_ ref (k, m) := by
  have hc : mCnt (k, m) = 1 := by unfold mCnt; simp [h0, h3]
  refine ⟨⟨rfl, fun b hb => ?_⟩, by rw [zi_s, hc], fun j hj => by rw [zi_k hj, zi_a (by omega)], fun j hj => ?_, fun j hj => ?_⟩
  · rw [zi_b (fun q => hb (Or.inl q)), zi_b (fun q => hb (Or.inr q))]
  · rw [zi_a (by omega), zi_k (by omega)]
  · rw [hc] at hj
    have : j = 0 := by omega
    subst this
    rw [zi_a (by omega)]
    show zi (zsi M (a + 3) bc (nI m)) (a + 3) bc = nI (if k = 0 then ref (at_ + 0) else m)
    rw [zi_s, if_neg h0]
set_option maxHeartbeats 4000000 in
set_option maxRecDepth 100000 in
/-- addBases(reference, kind, number) -/
theorem c_Rd_addBases (l : Launch) (E : zE) (Γ : zG) (n : Nat) (M : zM) (a r len : Nat) (ref : Nat → Nat) (rd : mRd) (k m : Nat) (hs : pSh Γ M.2.2 a) (hrs : pRs Γ M.2.2 r) (hd : pRd M a rd) (hf : pRf M r len ref) (hfit : mFit ref len (rd.1 + mPs rd.2) (k, m)) (hroom : mBc rd.2 + mCnt (k, m) ≤ 20) :
    zCt l E Y_Rd_addBases 1 (0, 0) [.ref a, .ref r, .int (nI k), .int (nI m)] Γ n M (zPv Γ n (fun M' => pAb M M' a (mBc rd.2) (rd.1 + mPs rd.2) ref (k, m))) := by
  refine zCt.of [(0, .ref a), (1, .ref r), (2, .int (nI k)), (3, .int (nI m))] (by decide) (Nat.le_of_ble_eq_true rfl) rfl (fun f hfl hx hQ => ?_)
  obtain ⟨⟨ha, ha1, ha2, ha3⟩, p0, p1, p2, ha0⟩ := hs
  have p0 : zr M a 0 = a + 1 := p0
  have p1 : zr M a 1 = a + 2 := p1
  have p2 : zr M a 2 = a + 3 := p2
  obtain ⟨hr, hrb, pr, hr0⟩ := hrs
  have pr : zr M r 0 = r + 1 := pr
  obtain ⟨q1, q2, q3, q4, q5⟩ := hd
  have hk : k < 4 := mFit_kind hfit
  have hl := hf.2.2.1
  have hm0 : k = 0 → 1 ≤ m ∧ rd.1 + mPs rd.2 + m ≤ len ∧ mBc rd.2 + m ≤ 20 := by
    intro e
    subst e
    unfold mFit at hfit
    unfold mCnt at hroom
    dsimp only at hfit hroom
    simp at hfit hroom
    omega
  have hm1 : k ≠ 0 → k ≠ 3 → mBc rd.2 + 1 ≤ 20 := by
    intro e1 e2
    unfold mCnt at hroom
    dsimp only at hroom
    rw [if_neg e1, if_neg e2] at hroom
    exact hroom
  refine g_iload_n (q := 1) hx d_Rd_addBases_0 rfl rfl ?_
  refine g_if_ne (q := 4) (t := 37) hx d_Rd_addBases_1 rfl rfl (zb_ne0 (by omega)) (fun h1 => ?_) (fun h1 => ?_)
  · refine g_iload_n (q := 38) hx d_Rd_addBases_37 rfl rfl ?_
    refine g_iconst (q := 39) (v := nI 3) hx d_Rd_addBases_38 rfl (by decide) ?_
    refine g_icmp_eq (q := 42) (t := 62) hx d_Rd_addBases_39 rfl rfl (nI_eq (by omega) (by omega)) (fun h39 => ?_) (fun h39 => ?_)
    · exact g_vret hx d_Rd_addBases_62 rfl hQ ⟨Nat.le_refl _, Nat.le_refl _⟩ ⟨rfl, rfl, rfl, by first | (have e0 : k = 0 := by omega); subst e0; exact pAb0 hf (by omega) | (have e3 : k = 3 := by omega); subst e3; exact pAb3 q3 | exact pAb1 (by omega) (by omega)⟩
    · refine g_aload_n (q := 43) hx d_Rd_addBases_42 rfl rfl ?_
      refine g_geta (q := 46) hx d_Rd_addBases_43 rfl fl_Rd_18 (by assumption) (by assumption) (by omega) ?_
      refine g_aload_n (q := 47) hx d_Rd_addBases_46 rfl rfl ?_
      refine g_geti (q := 50) hx d_Rd_addBases_47 rfl fl_Rd_28 (by assumption) (by assumption) ?_
      refine g_iload_n (q := 51) hx d_Rd_addBases_50 rfl rfl ?_
      refine g_iast (q := 52) hx d_Rd_addBases_51 rfl (by assumption) rfl (by omega) (by decide) ?_
      refine g_aload_n (q := 53) hx d_Rd_addBases_52 rfl rfl ?_
      refine g_dup (q := 54) hx d_Rd_addBases_53 rfl rfl ?_
      refine g_geti (q := 57) hx d_Rd_addBases_54 rfl fl_Rd_28 (by assumption) ((zi_a (by omega)).trans q3) ?_
      refine g_iconst (q := 58) (v := nI 1) hx d_Rd_addBases_57 rfl (by decide) ?_
      refine g_iadd (q := 59) hx d_Rd_addBases_58 rfl (nI_add _ _) ?_
      refine g_puti (q := 62) hx d_Rd_addBases_59 rfl fl_Rd_28 nf_3_5 (by assumption) ?_
      exact g_vret hx d_Rd_addBases_62 rfl hQ ⟨Nat.le_refl _, Nat.le_refl _⟩ ⟨rfl, rfl, rfl, by first | (have e0 : k = 0 := by omega); subst e0; exact pAb0 hf (by omega) | (have e3 : k = 3 := by omega); subst e3; exact pAb3 q3 | exact pAb1 (by omega) (by omega)⟩
  · refine g_aload_n (q := 5) hx d_Rd_addBases_4 rfl rfl ?_
    refine g_geta (q := 8) hx d_Rd_addBases_5 rfl fl_Rd_47 (by assumption) (by assumption) (by omega) ?_
    refine g_aload_n (q := 9) hx d_Rd_addBases_8 rfl rfl ?_
    refine g_ci (q := 12) (zrunV hx d_Rd_addBases_9 lk_Rd_39 rfl rfl (by assumption) rfl rfl (Nat.le_of_ble_eq_true rfl) (by decide) (by omega) (by omega) (c_Rd_placeN _ E Γ n _ a rd.1 (mPs rd.2) ha q1 q4)) rfl (fun r9 M9 p9 => ?_)
    obtain ⟨rfl, rfl⟩ := p9
    refine g_aload_n (q := 13) hx d_Rd_addBases_12 rfl rfl ?_
    refine g_geta (q := 16) hx d_Rd_addBases_13 rfl fl_Rd_18 (by assumption) (by assumption) (by omega) ?_
    refine g_aload_n (q := 17) hx d_Rd_addBases_16 rfl rfl ?_
    refine g_geti (q := 20) hx d_Rd_addBases_17 rfl fl_Rd_28 (by assumption) (by assumption) ?_
    refine g_iload_n (q := 21) hx d_Rd_addBases_20 rfl rfl ?_
    refine g_copy (q := 24) hx d_Rd_addBases_21 rfl (by decide) cpl_Rd_55 cp_nat cp_st cp_ini hrb ha3 (by omega) (by omega) (by decide) (by decide) (by decide) ?_
    refine g_aload_n (q := 25) hx d_Rd_addBases_24 rfl rfl ?_
    refine g_dup (q := 26) hx d_Rd_addBases_25 rfl rfl ?_
    refine g_geti (q := 29) hx d_Rd_addBases_26 rfl fl_Rd_28 (by assumption) ((zi_cpn (by omega)).trans q3) ?_
    refine g_iload_n (q := 30) hx d_Rd_addBases_29 rfl rfl ?_
    refine g_iadd (q := 31) hx d_Rd_addBases_30 rfl (nI_add _ _) ?_
    refine g_puti (q := 34) hx d_Rd_addBases_31 rfl fl_Rd_28 nf_3_5 (by assumption) ?_
    refine g_goto (q := 62) hx d_Rd_addBases_34 rfl ?_
    exact g_vret hx d_Rd_addBases_62 rfl hQ ⟨Nat.le_refl _, Nat.le_refl _⟩ ⟨rfl, rfl, rfl, by first | (have e0 : k = 0 := by omega); subst e0; exact pAb0 hf (by omega) | (have e3 : k = 3 := by omega); subst e3; exact pAb3 q3 | exact pAb1 (by omega) (by omega)⟩
