/-! packing: blocks of three, of the reads in their order -/
def mGrp (fs : Nat → mRd) (fr m : Nat) : List mRd := (List.range m).map (fun i => fs (fr + i))
theorem mGrp_len (fs : Nat → mRd) (fr m : Nat) : (mGrp fs fr m).length = m := by simp [mGrp]
theorem mGrp_at {fs : Nat → mRd} {fr m i : Nat} (h : i < m) : mAt (mGrp fs fr m) i = fs (fr + i) := by simp [mAt, mGrp, List.getD_eq_getElem?_getD, h]
def mBk (ref : Nat → Nat) (rs : List mRd) : Nat → Nat := fun j => if j < mBl ref rs then mBlk ref rs j else 0
def mG3 (fs : Nat → mRd) (c k : Nat) : List mRd := mGrp fs (3 * k) (min 3 (c - 3 * k))
def mPk (ref : Nat → Nat) (fs : Nat → mRd) (c : Nat) : Nat → Nat × (Nat → Nat)
  | 0 => (0, fun _ => 0)
  | k + 1 => ((mPk ref fs c k).1 + mBl ref (mG3 fs c k), fun j => if j < (mPk ref fs c k).1 then (mPk ref fs c k).2 j else mBk ref (mG3 fs c k) (j - (mPk ref fs c k).1))
theorem z_min {a b : Nat} (ha : a < 2 ^ 31) (hb : b < 2 ^ 31) : (if nI b < nI a then nI b else nI a) = nI (min a b) := by
  by_cases c : b < a
  · rw [if_pos ((nI_ltI hb ha).mpr c), Nat.min_eq_right (by omega)]
  · rw [if_neg (fun q => c ((nI_ltI hb ha).mp q)), Nat.min_eq_left (by omega)]
theorem mBl_le {ref : Nat → Nat} {len : Nat} {rs : List mRd} (hr : ∀ j, ref j < 4) (hl : len ≤ 160) (hok : ∀ r ∈ rs, mOk ref len r) (h3 : rs.length ≤ 3) : mBl ref rs ≤ 260 := by
  have hst := mSt_ok hr hl hok
  have hrl : mRl ref rs ≤ (mSt ref rs).2.2.2.1 + 4 := mStrip_le (mRow ref rs) ((mSt ref rs).2.2.2.1 + 4)
  show mRl ref rs + 5 ≤ 260
  omega
/-- what pack may change -/
abbrev sPk (x : Nat) : Nat → Prop := fun a => x + 134 ≤ a ∧ a ≤ x + 138
set_option maxHeartbeats 4000000 in
set_option maxRecDepth 100000 in
/-- pack() -/
theorem c_Sr_pack (l : Launch) (E : zE) (Γ : zG) (n : Nat) (M : zM) (x sh sp c len : Nat) (ref : Nat → Nat) (fs : Nat → mRd) (hX : pX Γ M.2.2 x sh sp) (hc : zi M (x + 3) 1 = nI c) (hc24 : c ≤ 24) (hrf : pRf M (x + 1) len ref) (hfs : ∀ i, i < c → pRd M (x + 5 + 4 * i) (fs i) ∧ mOk ref len (fs i)) :
    zCt l E Y_Sr_pack 6 (0, 0) [.ref x] Γ n M (zPi Γ n (fun v M' => v = nI (mPk ref (fun j => fs (mSx (fun i => (fs i).1) c j)) c ((c + 2) / 3)).1 ∧ (∀ b, b ≠ x + 105 → M'.2.2 b = M.2.2 b) ∧ (∀ a, ¬ sPk x a → M'.1 a = M.1 a ∧ M'.2.1 a = M.2.1 a) ∧ pAr M' (x + 134) (mPk ref (fun j => fs (mSx (fun i => (fs i).1) c j)) c ((c + 2) / 3)).1 (mPk ref (fun j => fs (mSx (fun i => (fs i).1) c j)) c ((c + 2) / 3)).2)) := by
  refine zCt.of [(0, .ref x)] (by decide) (Nat.le_of_ble_eq_true rfl) rfl (fun f hfl hx hQ => ?_)
  have h0 := hX.1.1
  have hx0 := hX.1.2
  have q60 : ∀ _ : Unit, zr M x 6 = x + 134 := fun _ => hX.2.1.2.2.2.2.2.1
  have hA0 := hX.2.2.2.2.2.2.2.1
  have hl160 := hrf.2.2.1
  have hr4 := hrf.2.2.2
  refine g_aload_n (q := 1) hx d_Sr_pack_0 rfl rfl ?_
  refine g_cv (q := 4) (zrunV hx d_Sr_pack_1 lk_Sr_147 rfl rfl (by assumption) rfl rfl (Nat.le_of_ble_eq_true rfl) (by decide) (by omega) (by omega) (c_Sr_sortByPosition _ E Γ n _ x sh sp c (fun i => (fs i).1) hX hc hc24 (fun i hi => (hfs i hi).1.1) (fun i hi => by have := mPs_fit (hfs i hi).2; omega))) rfl (fun Ms p1 => ?_)
  obtain ⟨zs_, hso0⟩ := p1
  have q6s : ∀ _ : Unit, zr Ms x 6 = x + 134 := fun _ => by rw [zs_.r (by omega)]; exact q60 ()
  refine g_aload_n (q := 5) hx d_Sr_pack_4 rfl rfl ?_
  refine g_geto (q := 8) hx d_Sr_pack_5 rfl fl_Sr_44 h0 (q6s ()) (by first | exact Nat.succ_ne_zero _ | omega) ?_
  refine g_iconst (q := 9) (v := nI 0) hx d_Sr_pack_8 rfl (by decide) ?_
  refine g_puti (q := 12) hx d_Sr_pack_9 rfl fl_Sr_150 nf_0_1 hA0.1 ?_
  obtain ⟨Mt, hMt⟩ : ∃ Mt, Mt = zsi Ms (x + 134) 1 (nI 0) := ⟨_, rfl⟩
  rw [← hMt]
  have hit : ∀ a, ¬ sPk x a → Mt.1 a = M.1 a ∧ Mt.2.1 a = M.2.1 a := fun a ha => by
    rw [hMt]
    exact ⟨(zi_b (by unfold sPk at ha; omega)).trans (by rw [zs_.1]), by show Ms.2.1 a = _; rw [zs_.2.1]⟩
  have hrt : ∀ b, b ≠ x + 105 → Mt.2.2 b = M.2.2 b := fun b hb => by rw [hMt]; exact zs_.2.2 b hb
  have hso : ∀ j, j < c → Mt.2.2 (x + 105) j = x + 5 + 4 * mSx (fun i => (fs i).1) c j := fun j hj => by rw [hMt]; exact hso0 j hj
  have har0 : pAr Mt (x + 134) 0 (fun _ => 0) := ⟨by rw [hMt, zi_s], fun j hj => absurd hj (Nat.not_lt_zero _), Nat.zero_le _, fun j => by show 0 < 256; omega⟩
  clear hMt
  have hXt := hX.kp (P' := Mt.2.2) hrt
  have hXt0 := hXt
  obtain ⟨-, -, -, hR, ⟨hf0, hf1, -, hfi'⟩, h6, -, hA, hE, -⟩ := hXt
  have hgE := hE.1
  have hgA := hA.1
  have hfi : ∀ i, i < 25 → Mt.2.2 (x + 4) i = x + 5 + 4 * i ∧ pSh Γ Mt.2.2 (x + 5 + 4 * i) := hfi'
  clear hfi'
  have hrf1 : pRf Mt (x + 1) len ref := hrf.kept (hit _ (by unfold sPk; omega)).1 (hit _ (by unfold sPk; omega)).1
  have hfs1 : ∀ i, i < c → pRd Mt (x + 5 + 4 * i) (fs i) := fun i hi => (hfs i hi).1.kept (hit _ (by unfold sPk; omega)).1 (hit _ (by unfold sPk; omega)).1 (hit _ (by unfold sPk; omega)).1
  have hct : Mt.1 (x + 3) 1 = nI c := by rw [(hit (x + 3) (by unfold sPk; omega)).1]; exact hc
  have loop : ∀ (k : Nat) (M1 : zM), k ≤ (c + 2) / 3 → zOm (sPk x) Mt M1 → pAr M1 (x + 134) (mPk ref (fun j => fs (mSx (fun i => (fs i).1) c j)) c k).1 (mPk ref (fun j => fs (mSx (fun i => (fs i).1) c j)) c k).2 → (mPk ref (fun j => fs (mSx (fun i => (fs i).1) c j)) c k).1 ≤ 260 * k → zGo f E Γ n (0, 0) M1 14 [(1, .int (nI (3 * k))), (0, .ref x)] [] := by
    refine z_lp (fun k => c - 3 * k) _ ?_
    intro k M1 ih hk j1 j2 j3
    have rM1 : M1.2.2 = Mt.2.2 := j1.r
    have k0 : ∀ _ : Unit, zr M1 x 0 = x + 1 := fun _ => by
      show M1.2.2 x 0 = _
      rw [rM1]; exact hXt0.2.1.1
    have k1 : ∀ _ : Unit, zr M1 x 1 = x + 3 := fun _ => by
      show M1.2.2 x 1 = _
      rw [rM1]; exact hXt0.2.1.2.1
    have k3 : ∀ _ : Unit, zr M1 x 3 = x + 105 := fun _ => by
      show M1.2.2 x 3 = _
      rw [rM1]; exact hXt0.2.1.2.2.1
    have k6 : ∀ _ : Unit, zr M1 x 6 = x + 134 := fun _ => by
      show M1.2.2 x 6 = _
      rw [rM1]; exact hXt0.2.1.2.2.2.2.2.1
    have k7 : ∀ _ : Unit, zr M1 x 7 = x + 136 := fun _ => by
      show M1.2.2 x 7 = _
      rw [rM1]; exact hXt0.2.1.2.2.2.2.2.2.1
    have kc : zi M1 (x + 3) 1 = nI c := by
      show M1.1 (x + 3) 1 = nI c
      rw [(j1.2 (x + 3) (by unfold sPk; omega)).1]; exact hct
    refine g_iload_n (q := 15) hx d_Sr_pack_14 rfl rfl ?_
    refine g_aload_n (q := 16) hx d_Sr_pack_15 rfl rfl ?_
    refine g_geto (q := 19) hx d_Sr_pack_16 rfl fl_Sr_21 h0 (k1 ()) (by first | exact Nat.succ_ne_zero _ | omega) ?_
    refine g_geti (q := 22) hx d_Sr_pack_19 rfl fl_Sr_72 hf0 kc ?_
    refine g_icmp_ge (q := 25) (t := 81) hx d_Sr_pack_22 rfl rfl (nI_leI (by omega) (by omega)) (fun h22 => ?_) (fun h22 => ?_)
    · obtain rfl : k = (c + 2) / 3 := (by omega)
      refine g_aload_n (q := 82) hx d_Sr_pack_81 rfl rfl ?_
      refine g_geto (q := 85) hx d_Sr_pack_82 rfl fl_Sr_44 h0 (k6 ()) (by first | exact Nat.succ_ne_zero _ | omega) ?_
      refine g_geti (q := 88) hx d_Sr_pack_85 rfl fl_Sr_150 hA.1 j2.1 ?_
      exact g_iret hx d_Sr_pack_88 rfl hQ ⟨Nat.le_refl _, Nat.le_refl _⟩ ⟨_, rfl, rfl, rfl, rfl, fun b hb => by rw [rM1]; exact hrt b hb, fun a ha => ⟨(j1.2 a ha).1.trans (hit a ha).1, (j1.2 a ha).2.trans (hit a ha).2⟩, j2⟩
    · have hm1 : 1 ≤ min 3 (c - 3 * k) ∧ min 3 (c - 3 * k) ≤ 3 ∧ 3 * k + min 3 (c - 3 * k) ≤ c := by omega
      have hgl : (mG3 (fun j => fs (mSx (fun i => (fs i).1) c j)) c k).length = min 3 (c - 3 * k) := mGrp_len _ _ _
      have hga : ∀ i, i < min 3 (c - 3 * k) → mAt (mG3 (fun j => fs (mSx (fun i => (fs i).1) c j)) c k) i = fs (mSx (fun i => (fs i).1) c (3 * k + i)) := fun i hi => mGrp_at hi
      have hokg : ∀ r ∈ (mG3 (fun j => fs (mSx (fun i => (fs i).1) c j)) c k), mOk ref len r := fun r hr => by
        obtain ⟨i, hi, rfl⟩ := mAt_mem hr
        rw [hgl] at hi
        rw [hga i hi]
        exact (hfs _ (mSx_lt _ _ _ (by omega))).2
      have hble := mBl_le hr4 hl160 hokg (by omega)
      refine g_aload_n (q := 26) hx d_Sr_pack_25 rfl rfl ?_
      refine g_geto (q := 29) hx d_Sr_pack_26 rfl fl_Sr_51 h0 (k7 ()) (by first | exact Nat.succ_ne_zero _ | omega) ?_
      refine g_aload_n (q := 30) hx d_Sr_pack_29 rfl rfl ?_
      refine g_geto (q := 33) hx d_Sr_pack_30 rfl fl_Sr_12 h0 (k0 ()) (by first | exact Nat.succ_ne_zero _ | omega) ?_
      refine g_aload_n (q := 34) hx d_Sr_pack_33 rfl rfl ?_
      refine g_geta (q := 37) hx d_Sr_pack_34 rfl fl_Sr_31 h0 (k3 ()) (by first | exact Nat.succ_ne_zero _ | omega) ?_
      refine g_iload_n (q := 38) hx d_Sr_pack_37 rfl rfl ?_
      refine g_iconst (q := 39) (v := nI 3) hx d_Sr_pack_38 rfl (by decide) ?_
      refine g_aload_n (q := 40) hx d_Sr_pack_39 rfl rfl ?_
      refine g_geto (q := 43) hx d_Sr_pack_40 rfl fl_Sr_21 h0 (k1 ()) (by first | exact Nat.succ_ne_zero _ | omega) ?_
      refine g_geti (q := 46) hx d_Sr_pack_43 rfl fl_Sr_72 hf0 kc ?_
      refine g_iload_n (q := 47) hx d_Sr_pack_46 rfl rfl ?_
      refine g_isub (q := 48) hx d_Sr_pack_47 rfl (pk_sub (by omega)) ?_
      refine g_min (q := 51) hx d_Sr_pack_48 rfl (by decide) (by omega) (by omega) mml_Sr_151 mm_st mm_ini mm_co (Nat.le_of_ble_eq_true rfl) (z_min (by omega) (by omega)) ?_
      rw [← hgl]
      refine g_cv (q := 54) (zrunV hx d_Sr_pack_51 lk_Sr_157 rfl rfl (by assumption) rfl rfl (Nat.le_of_ble_eq_true rfl) (by decide) (by omega) (by omega) (c_En_writeBlock _ E Γ n _ (x + 136) (x + 1) len (x + 105) 24 (3 * k) ref (mG3 (fun j => fs (mSx (fun i => (fs i).1) c j)) c k) (fun i => x + 5 + 4 * mSx (fun i => (fs i).1) c (3 * k + i)) (by rw [rM1]; exact hE) (by rw [rM1]; exact hR) (hrf1.kept (j1.2 _ (by unfold sPk; omega)).1 (j1.2 _ (by unfold sPk; omega)).1) (by unfold sOff sEn; omega) h6 (by decide) (by omega) (by omega) (by omega) (fun i hi => by
          rw [hgl] at hi
          rw [hga i hi]
          have hlt := mSx_lt (fun i => (fs i).1) c (3 * k + i) (by omega)
          refine ⟨?_, ?_, ?_, ?_, (hfs _ hlt).2⟩
          · show M1.2.2 (x + 105) (3 * k + i) = _
            rw [rM1]; exact hso _ (by omega)
          · rw [rM1]; exact (hfi _ (by omega)).2
          · exact (hfs1 _ hlt).kept (j1.2 _ (by unfold sPk; omega)).1 (j1.2 _ (by unfold sPk; omega)).1 (j1.2 _ (by unfold sPk; omega)).1
          · show sOff (sEn (x + 136)) (x + 5 + 4 * mSx (fun i => (fs i).1) c (3 * k + i))
            unfold sOff sEn; omega) (fun i hi => by
          rw [hgl] at hi
          rw [hga i (by omega), hga (i + 1) (by omega)]
          exact mSx_up (fun i => (fs i).1) c (3 * k + i) (by omega)))) rfl (fun M2 p51 => ?_)
      obtain ⟨z2, u2, v2⟩ := p51
      have j12 : zOm (sPk x) Mt M2 := j1.tr (z2.mono (fun a q => by unfold sEn at q; unfold sPk; omega))
      have rM2 : M2.2.2 = Mt.2.2 := j12.r
      have k62 : ∀ _ : Unit, zr M2 x 6 = x + 134 := fun _ => by
        show M2.2.2 x 6 = _
        rw [rM2]; exact hXt0.2.1.2.2.2.2.2.1
      have k72 : ∀ _ : Unit, zr M2 x 7 = x + 136 := fun _ => by
        show M2.2.2 x 7 = _
        rw [rM2]; exact hXt0.2.1.2.2.2.2.2.2.1
      have k22 : ∀ _ : Unit, zr M2 (x + 136) 2 = x + 138 := fun _ => by
        show M2.2.2 (x + 136) 2 = _
        rw [rM2]; exact hE.2.2.2.2.1
      have har2 : pAr M2 (x + 134) (mPk ref (fun j => fs (mSx (fun i => (fs i).1) c j)) c k).1 (mPk ref (fun j => fs (mSx (fun i => (fs i).1) c j)) c k).2 := j2.kept (z2.2 _ (by unfold sEn; omega)).1 (z2.2 _ (by unfold sEn; omega)).1
      refine g_aload_n (q := 55) hx d_Sr_pack_54 rfl rfl ?_
      refine g_geto (q := 58) hx d_Sr_pack_55 rfl fl_Sr_44 h0 (k62 ()) (by first | exact Nat.succ_ne_zero _ | omega) ?_
      refine g_aload_n (q := 59) hx d_Sr_pack_58 rfl rfl ?_
      refine g_geto (q := 62) hx d_Sr_pack_59 rfl fl_Sr_51 h0 (k72 ()) (by first | exact Nat.succ_ne_zero _ | omega) ?_
      refine g_geta (q := 65) hx d_Sr_pack_62 rfl fl_Sr_161 hE.1 (k22 ()) (by first | exact Nat.succ_ne_zero _ | omega) ?_
      refine g_aload_n (q := 66) hx d_Sr_pack_65 rfl rfl ?_
      refine g_geto (q := 69) hx d_Sr_pack_66 rfl fl_Sr_51 h0 (k72 ()) (by first | exact Nat.succ_ne_zero _ | omega) ?_
      refine g_geti (q := 72) hx d_Sr_pack_69 rfl fl_Sr_164 hE.1 u2 ?_
      refine g_cv (q := 75) (zrunV hx d_Sr_pack_72 lk_Sr_167 rfl rfl (by assumption) rfl rfl (Nat.le_of_ble_eq_true rfl) (by decide) (by omega) (by omega) (c_Ar_append _ E Γ n _ (x + 134) (mPk ref (fun j => fs (mSx (fun i => (fs i).1) c j)) c k).1 (x + 138) (mBl ref (mG3 (fun j => fs (mSx (fun i => (fs i).1) c j)) c k)) 260 (mPk ref (fun j => fs (mSx (fun i => (fs i).1) c j)) c k).2 (mBk ref (mG3 (fun j => fs (mSx (fun i => (fs i).1) c j)) c k)) (by rw [rM2]; exact hA) har2 hE.2.2.1 (by decide) hble (by omega) (fun j hj => by
          unfold mBk; rw [if_pos hj]; exact v2 j hj) (fun j => by
          unfold mBk; split
          · exact mBlk_lt hr4 hl160 hokg (by omega) (by assumption)
          · omega) (by omega) (by omega))) rfl (fun M3 p72 => ?_)
      obtain ⟨z3, v3⟩ := p72
      refine g_iinc (q := 78) (lc' := [(1, _), (0, _)]) hx d_Sr_pack_75 rfl rfl (z_inc3 _) (by decide) rfl ?_
      refine g_goto (q := 14) hx d_Sr_pack_78 rfl ?_
      exact ih (k + 1) M3 (by show c - 3 * (k + 1) < c - 3 * k; omega) (by omega) (j12.tr (z3.om.mono (fun a q => by unfold sPk; omega))) v3 (by
        show (mPk ref (fun j => fs (mSx (fun i => (fs i).1) c j)) c k).1 + mBl ref (mG3 (fun j => fs (mSx (fun i => (fs i).1) c j)) c k) ≤ 260 * (k + 1)
        omega)
  refine g_iconst (q := 13) (v := nI 0) hx d_Sr_pack_12 rfl (by decide) ?_
  refine g_istore_n (q := 14) (lc' := [(1, _), (0, _)]) hx d_Sr_pack_13 rfl (by decide) rfl ?_
  exact loop 0 Mt (Nat.zero_le _) zOm.rf har0 (Nat.le_refl _)
