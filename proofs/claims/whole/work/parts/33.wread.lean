theorem m_drop {es : List (Nat × Nat)} {i : Nat} (h : i < es.length) : es.drop i = (mK es i, mV es i) :: es.drop (i + 1) := by
  rw [List.drop_eq_getElem_cons h]
  have e : es.getD i (0, 0) = es[i] := by simp [List.getD_eq_getElem?_getD, h]
  unfold mK mV
  rw [e]
theorem pSh.out {Γ : zG} {P : Nat → Nat → Nat} {a : Nat} (h : pSh Γ P a) : 0 < a := h.2.2.2.2
/-- the encoder has nothing of the reference and of the read -/
def sOff (S : Nat → Prop) (a : Nat) : Prop := ¬ S a ∧ ¬ S (a + 1) ∧ ¬ S (a + 2) ∧ ¬ S (a + 3)
set_option maxHeartbeats 4000000 in
set_option maxRecDepth 100000 in
/-- writeRead(reference, read, distance) -/
theorem c_En_writeRead (l : Launch) (E : zE) (Γ : zG) (n : Nat) (M M0 : zM) (X rr len a b : Nat) (ref : Nat → Nat) (rd : mRd) (s : mEn) (lst : List (Nat × Nat)) (hs : pEs Γ M0.2.2 X) (hI : eI M0 X M (s, mRead ref b rd ++ lst)) (hrs : pRs Γ M0.2.2 rr) (hrf : pRf M0 rr len ref) (ho : sOff (sEn X) rr) (hsh : pSh Γ M0.2.2 a) (hrd : pRd M0 a rd) (hoa : sOff (sEn X) a) (hok : mOk ref len rd) :
    zCt l E Y_En_writeRead 4 (0, 0) [.ref X, .ref rr, .ref a, .int (nI (rd.1 - b))] Γ n M (zPv Γ n (fun M' => eI M0 X M' (mPuts s (mRead ref b rd), lst))) := by
  refine zCt.of [(0, .ref X), (1, .ref rr), (2, .ref a), (3, .int (nI (rd.1 - b)))] (by decide) (Nat.le_of_ble_eq_true rfl) rfl (fun f hfl hx hQ => ?_)
  have hg0 := hs.1
  have ha0 := hsh.out
  obtain ⟨⟨hA0, hA1, hA2, hA3⟩, hz0', hz1', hz2', -⟩ := hsh
  obtain ⟨hk1, hfit, hk3, hk4'⟩ := hok
  have hl160 := hrf.2.2.1
  have hr4 := hrf.2.2.2
  unfold mRead at hI
  rw [List.append_assoc] at hI
  have loop : ∀ (i : Nat) (M1 : zM), ∀ (s1 : mEn) (at_ bf : Nat), i ≤ rd.2.length → eI M0 X M1 (s1, mEds ref at_ bf (rd.2.drop i) ++ lst) → mPuts s1 (mEds ref at_ bf (rd.2.drop i)) = mPuts s (mRead ref b rd) → mFits ref len at_ (rd.2.drop i) → bf < 5 → zGo f E Γ n (0, 0) M1 19 [(6, .int (nI i)), (5, .int (nI at_)), (4, .int (nI bf)), (0, .ref X), (1, .ref rr), (2, .ref a), (3, .int (nI (rd.1 - b)))] [] := by
    refine z_lp (fun i => rd.2.length - i) _ ?_
    intro i M1 ih s1 at_ bf hi hI1 hF hfi hbf
    obtain ⟨q1, q2, q3, q4, q5⟩ := hrd.kept (hI1.1.2 _ hoa.1).1 (hI1.1.2 _ hoa.2.1).1 (hI1.1.2 _ hoa.2.2.1).1
    have hz0 : zr M1 a 0 = a + 1 := by
      show M1.2.2 a 0 = _
      rw [hI1.1.r]; exact hz0'
    have hz1 : zr M1 a 1 = a + 2 := by
      show M1.2.2 a 1 = _
      rw [hI1.1.r]; exact hz1'
    have hra := hr4 at_
    refine g_iload (q := 21) hx d_En_writeRead_19 rfl rfl ?_
    refine g_aload_n (q := 22) hx d_En_writeRead_21 rfl rfl ?_
    refine g_geti (q := 25) hx d_En_writeRead_22 rfl fl_En_45 (by assumption) q2 ?_
    refine g_icmp_ge (q := 28) (t := 100) hx d_En_writeRead_25 rfl rfl (nI_leI (by omega) (by omega)) (fun h25 => ?_) (fun h25 => ?_)
    · have hde : rd.2.drop i = [] := List.drop_eq_nil_of_le (by omega)
      rw [hde] at hI1 hF
      simp only [mEds] at hI1 hF
      refine g_aload_n (q := 101) hx d_En_writeRead_100 rfl rfl ?_
      refine g_iload (q := 103) hx d_En_writeRead_101 rfl rfl ?_
      refine g_iconst (q := 104) (v := nI 4) hx d_En_writeRead_103 rfl (by decide) ?_
      refine g_ci (q := 107) (zrunU hx d_En_writeRead_104 rfl lk_En_54 (by assumption) rfl rfl (Nat.le_of_ble_eq_true rfl) (by decide) (by omega) (by omega) (c_Co_kind _ E Γ n _ X 2 _ eR (eI M0 X) (eBit hs) rfl lk_Co_40E hg0 (s1, mKind bf 4 ++ lst) hI1 bf 4 _ _ hbf (by omega) (eKd (by omega) _ _))) rfl (fun r104 M104 p104 => ?_)
      obtain ⟨rfl, hI2⟩ := p104
      refine g_pop (q := 108) hx d_En_writeRead_107 rfl rfl ?_
      exact g_vret hx d_En_writeRead_108 rfl hQ ⟨Nat.le_refl _, Nat.le_refl _⟩ ⟨rfl, rfl, rfl, by rw [← hF]; exact hI2⟩
    · have hdr := m_drop (es := rd.2) (i := i) (by omega)
      have q5i := q5 i (by omega)
      generalize mK rd.2 i = k at hdr q5i
      generalize mV rd.2 i = m at hdr q5i
      rw [hdr] at hI1 hF hfi
      obtain ⟨hf1, hfi2⟩ := hfi
      have hk4 := mFit_kind hf1
      have hf2 := hf1
      unfold mFit at hf2
      dsimp only at hf2 hk4
      simp only [mEds, List.append_assoc] at hI1
      have hF2 := hF
      simp only [mEds, mPuts_app] at hF2
      refine g_aload_n (q := 29) hx d_En_writeRead_28 rfl rfl ?_
      refine g_geta (q := 32) hx d_En_writeRead_29 rfl fl_En_48 (by assumption) hz0 (by omega) ?_
      refine g_iload (q := 34) hx d_En_writeRead_32 rfl rfl ?_
      refine g_iald (q := 35) hx d_En_writeRead_34 rfl hA1 rfl (by omega) (by decide) q5i.1 ?_
      refine g_istore (q := 37) (lc' := [(7, _), (6, _), (5, _), (4, _), (0, _), (1, _), (2, _), (3, _)]) hx d_En_writeRead_35 rfl (by decide) rfl ?_
      refine g_aload_n (q := 38) hx d_En_writeRead_37 rfl rfl ?_
      refine g_geta (q := 41) hx d_En_writeRead_38 rfl fl_En_51 (by assumption) hz1 (by omega) ?_
      refine g_iload (q := 43) hx d_En_writeRead_41 rfl rfl ?_
      refine g_iald (q := 44) hx d_En_writeRead_43 rfl hA2 rfl (by omega) (by decide) q5i.2 ?_
      refine g_istore (q := 46) (lc' := [(8, _), (7, _), (6, _), (5, _), (4, _), (0, _), (1, _), (2, _), (3, _)]) hx d_En_writeRead_44 rfl (by decide) rfl ?_
      refine g_aload_n (q := 47) hx d_En_writeRead_46 rfl rfl ?_
      refine g_iload (q := 49) hx d_En_writeRead_47 rfl rfl ?_
      refine g_iload (q := 51) hx d_En_writeRead_49 rfl rfl ?_
      refine g_ci (q := 54) (zrunU hx d_En_writeRead_51 rfl lk_En_54 (by assumption) rfl rfl (Nat.le_of_ble_eq_true rfl) (by decide) (by omega) (by omega) (c_Co_kind _ E Γ n _ X 2 _ eR (eI M0 X) (eBit hs) rfl lk_Co_40E hg0 (s1, mKind bf k ++ (mEdN ref at_ (k, m) ++ (mEds ref (at_ + mAdv (k, m)) k (rd.2.drop (i + 1)) ++ lst))) hI1 bf k _ _ hbf (by omega) (eKd (by omega) _ _))) rfl (fun r51 M51 p51 => ?_)
      obtain ⟨rfl, hI2⟩ := p51
      refine g_pop (q := 55) hx d_En_writeRead_54 rfl rfl ?_
      refine g_aload_n (q := 56) hx d_En_writeRead_55 rfl rfl ?_
      refine g_aload_n (q := 57) hx d_En_writeRead_56 rfl rfl ?_
      refine g_iload (q := 59) hx d_En_writeRead_57 rfl rfl ?_
      refine g_iload (q := 61) hx d_En_writeRead_59 rfl rfl ?_
      refine g_iload (q := 63) hx d_En_writeRead_61 rfl rfl ?_
      refine g_ci (q := 66) (zrunU hx d_En_writeRead_63 rfl lk_En_57 (by assumption) rfl rfl (Nat.le_of_ble_eq_true rfl) (by decide) (by omega) (by omega) (c_Co_editNumber _ E Γ n _ X 2 _ eR (eI M0 X) (eBit hs) rfl lk_Co_40E hg0 _ hI2 ⟨lk_Co_44E, lk_Co_52E, lk_Co_55E⟩ rr len ref (by rw [hI2.1.r]; exact hrs) (hrf.kept (hI2.1.2 _ ho.1).1 (hI2.1.2 _ ho.2.1).1) at_ k m _ _ hk4 (by omega) (by omega) (by omega) (eE hrf.2.2.1 hrf.2.2.2 hf1 _ _))) rfl (fun r63 M63 p63 => ?_)
      obtain ⟨rfl, hI3⟩ := p63
      refine g_pop (q := 67) hx d_En_writeRead_66 rfl rfl ?_
      refine g_iload (q := 69) hx d_En_writeRead_67 rfl rfl ?_
      refine g_iconst (q := 70) (v := nI 2) hx d_En_writeRead_69 rfl (by decide) ?_
      refine g_icmp_eq (q := 73) (t := 90) hx d_En_writeRead_70 rfl rfl (nI_eq (by omega) (by omega)) (fun h70 => ?_) (fun h70 => ?_)
      · refine g_iload (q := 92) hx d_En_writeRead_90 rfl rfl ?_
        refine g_istore (q := 94) (lc' := [(4, _), (8, _), (7, _), (6, _), (5, _), (0, _), (1, _), (2, _), (3, _)]) hx d_En_writeRead_92 rfl (by decide) rfl ?_
        refine g_iinc (q := 97) (lc' := [(6, _), (4, _), (8, _), (7, _), (5, _), (0, _), (1, _), (2, _), (3, _)]) hx d_En_writeRead_94 rfl rfl (z_inc _) (by decide) rfl ?_
        refine g_goto (q := 19) hx d_En_writeRead_97 rfl ?_
        have e9 : at_ + mAdv (k, m) = at_ := by unfold mAdv; dsimp only; rw [if_neg (by omega), if_neg (by omega), Nat.add_zero]
        rw [e9] at hI3 hF2 hfi2
        refine z_perm (lc' := [(6, .int (nI (i + 1))), (5, .int (nI (at_))), (4, .int (nI k)), (0, .ref X), (1, .ref rr), (2, .ref a), (3, .int (nI (rd.1 - b)))]) (fun q hq => by simp only [List.mem_cons, List.not_mem_nil, or_false] at hq ⊢; rcases hq with h | h | h | h | h | h | h <;> simp [h]) ?_
        exact ih (i + 1) M63 (by show rd.2.length - (i + 1) < rd.2.length - i; omega) _ _ k (by omega) hI3 hF2 hfi2 (by omega)
      · refine g_iload (q := 75) hx d_En_writeRead_73 rfl rfl ?_
        refine g_iload (q := 77) hx d_En_writeRead_75 rfl rfl ?_
        refine g_iconst (q := 78) (v := nI 1) hx d_En_writeRead_77 rfl (by decide) ?_
        refine g_icmp_ne (q := 81) (t := 85) hx d_En_writeRead_78 rfl rfl (not_congr (nI_eq (by omega) (by omega))) (fun h78 => ?_) (fun h78 => ?_)
        · refine g_iload (q := 87) hx d_En_writeRead_85 rfl rfl ?_
          refine g_iadd (q := 88) hx d_En_writeRead_87 rfl (nI_add _ _) ?_
          refine g_istore (q := 90) (lc' := [(5, _), (8, _), (7, _), (6, _), (4, _), (0, _), (1, _), (2, _), (3, _)]) hx d_En_writeRead_88 rfl (by decide) rfl ?_
          refine g_iload (q := 92) hx d_En_writeRead_90 rfl rfl ?_
          refine g_istore (q := 94) (lc' := [(4, _), (5, _), (8, _), (7, _), (6, _), (0, _), (1, _), (2, _), (3, _)]) hx d_En_writeRead_92 rfl (by decide) rfl ?_
          refine g_iinc (q := 97) (lc' := [(6, _), (4, _), (5, _), (8, _), (7, _), (0, _), (1, _), (2, _), (3, _)]) hx d_En_writeRead_94 rfl rfl (z_inc _) (by decide) rfl ?_
          refine g_goto (q := 19) hx d_En_writeRead_97 rfl ?_
          have e9 : at_ + mAdv (k, m) = at_ + m := by unfold mAdv; dsimp only; rw [if_pos (by omega)]
          rw [e9] at hI3 hF2 hfi2
          refine z_perm (lc' := [(6, .int (nI (i + 1))), (5, .int (nI (at_ + m))), (4, .int (nI k)), (0, .ref X), (1, .ref rr), (2, .ref a), (3, .int (nI (rd.1 - b)))]) (fun q hq => by simp only [List.mem_cons, List.not_mem_nil, or_false] at hq ⊢; rcases hq with h | h | h | h | h | h | h <;> simp [h]) ?_
          exact ih (i + 1) M63 (by show rd.2.length - (i + 1) < rd.2.length - i; omega) _ _ k (by omega) hI3 hF2 hfi2 (by omega)
        · refine g_iconst (q := 82) (v := nI 1) hx d_En_writeRead_81 rfl (by decide) ?_
          refine g_goto (q := 87) hx d_En_writeRead_82 rfl ?_
          refine g_iadd (q := 88) hx d_En_writeRead_87 rfl (nI_add _ _) ?_
          refine g_istore (q := 90) (lc' := [(5, _), (8, _), (7, _), (6, _), (4, _), (0, _), (1, _), (2, _), (3, _)]) hx d_En_writeRead_88 rfl (by decide) rfl ?_
          refine g_iload (q := 92) hx d_En_writeRead_90 rfl rfl ?_
          refine g_istore (q := 94) (lc' := [(4, _), (5, _), (8, _), (7, _), (6, _), (0, _), (1, _), (2, _), (3, _)]) hx d_En_writeRead_92 rfl (by decide) rfl ?_
          refine g_iinc (q := 97) (lc' := [(6, _), (4, _), (5, _), (8, _), (7, _), (0, _), (1, _), (2, _), (3, _)]) hx d_En_writeRead_94 rfl rfl (z_inc _) (by decide) rfl ?_
          refine g_goto (q := 19) hx d_En_writeRead_97 rfl ?_
          have e9 : at_ + mAdv (k, m) = at_ + 1 := by unfold mAdv; dsimp only; rw [if_neg (by omega), if_pos (by omega)]
          rw [e9] at hI3 hF2 hfi2
          refine z_perm (lc' := [(6, .int (nI (i + 1))), (5, .int (nI (at_ + 1))), (4, .int (nI k)), (0, .ref X), (1, .ref rr), (2, .ref a), (3, .int (nI (rd.1 - b)))]) (fun q hq => by simp only [List.mem_cons, List.not_mem_nil, or_false] at hq ⊢; rcases hq with h | h | h | h | h | h | h <;> simp [h]) ?_
          exact ih (i + 1) M63 (by show rd.2.length - (i + 1) < rd.2.length - i; omega) _ _ k (by omega) hI3 hF2 hfi2 (by omega)
  refine g_aload_n (q := 1) hx d_En_writeRead_0 rfl rfl ?_
  refine g_iconst (q := 2) (v := nI 0) hx d_En_writeRead_1 rfl (by decide) ?_
  refine g_iload_n (q := 3) hx d_En_writeRead_2 rfl rfl ?_
  refine g_ci (q := 6) (zrunU hx d_En_writeRead_3 rfl lk_En_41 (by assumption) rfl rfl (Nat.le_of_ble_eq_true rfl) (by decide) (by omega) (by omega) (c_Co_number _ E Γ n _ X 2 _ eR (eI M0 X) (eBit hs) rfl lk_Co_40E hg0 (s, mNum 0 (rd.1 - b) ++ (mEds ref rd.1 4 rd.2 ++ lst)) hI 0 (rd.1 - b) _ _ (by omega) (by omega) (eN (g := 0) (by omega) _ _))) rfl (fun r3 M3 p3 => ?_)
  obtain ⟨rfl, hI1⟩ := p3
  have q1 : zi M3 a 3 = nI rd.1 := by rw [hI1.1.i hoa.1]; exact hrd.1
  refine g_pop (q := 7) hx d_En_writeRead_6 rfl rfl ?_
  refine g_iconst (q := 8) (v := nI 4) hx d_En_writeRead_7 rfl (by decide) ?_
  refine g_istore (q := 10) (lc' := [(4, _), (0, _), (1, _), (2, _), (3, _)]) hx d_En_writeRead_8 rfl (by decide) rfl ?_
  refine g_aload_n (q := 11) hx d_En_writeRead_10 rfl rfl ?_
  refine g_geti (q := 14) hx d_En_writeRead_11 rfl fl_En_26 (by assumption) (by assumption) ?_
  refine g_istore (q := 16) (lc' := [(5, _), (4, _), (0, _), (1, _), (2, _), (3, _)]) hx d_En_writeRead_14 rfl (by decide) rfl ?_
  refine g_iconst (q := 17) (v := nI 0) hx d_En_writeRead_16 rfl (by decide) ?_
  refine g_istore (q := 19) (lc' := [(6, _), (5, _), (4, _), (0, _), (1, _), (2, _), (3, _)]) hx d_En_writeRead_17 rfl (by decide) rfl ?_
  exact loop 0 M3 _ rd.1 4 (Nat.zero_le _) hI1 (by unfold mRead; rw [mPuts_app]; rfl) hfit (by omega)
