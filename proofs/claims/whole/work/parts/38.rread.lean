/-- the kind before: of the last edit, or 4 -/
def mLs (es : List (Nat × Nat)) (last : Nat) : Prop := last < 5 ∧ ∀ k, k < 4 → (mJn es k ↔ (k = 0 ∨ k = 3) ∧ k = last)
theorem mLs_0 : mLs [] 4 := ⟨by omega, fun k hk => ⟨fun h => absurd h.2.1 (Nat.lt_irrefl _), fun h => by omega⟩⟩
theorem mLs_n {es : List (Nat × Nat)} {k m : Nat} (hk : k < 4) : mLs (es ++ [(k, m)]) k := by
  refine ⟨by omega, fun j hj => ?_⟩
  have e : mK (es ++ [(k, m)]) ((es ++ [(k, m)]).length - 1) = k := by simp [mK]
  unfold mJn
  rw [e]
  constructor
  · rintro ⟨h1, h2, h3⟩; exact ⟨h1, h3.symm⟩
  · rintro ⟨h1, h3⟩; exact ⟨h1, by simp, h3.symm⟩
theorem mTk_end {by_ ref : Nat → Nat} {len pos n last : Nat} {es : List (Nat × Nat)} {s : mDe} (h : (mGkd by_ last s).1 = 4) : mTk by_ ref len pos (n + 1) es last s = if 0 < mBc es then some (es, (mGkd by_ last s).2) else none := by
  simp only [mTk, if_pos h]
theorem mTk_yes {by_ ref : Nat → Nat} {len pos n last : Nat} {es : List (Nat × Nat)} {s : mDe} (h4 : (mGkd by_ last s).1 < 4) (hl : mLs es last) (h : mGood9 ref len (pos, es) (mGkd by_ last s).1 (mGe by_ ref (pos + mPs es) (mGkd by_ last s).1 (mGkd by_ last s).2).1) :
    mTk by_ ref len pos (n + 1) es last s = mTk by_ ref len pos n (es ++ [((mGkd by_ last s).1, (mGe by_ ref (pos + mPs es) (mGkd by_ last s).1 (mGkd by_ last s).2).1)]) (mGkd by_ last s).1 (mGe by_ ref (pos + mPs es) (mGkd by_ last s).1 (mGkd by_ last s).2).2 := by
  obtain ⟨g1, g2, g3⟩ := h
  simp only [mTk]
  rw [if_neg (by omega), if_neg (fun q => g1 ((hl.2 _ h4).mpr q)), if_neg g2, if_pos g3]
theorem mTk_no {by_ ref : Nat → Nat} {len pos n last : Nat} {es : List (Nat × Nat)} {s : mDe} (h4 : (mGkd by_ last s).1 < 4) (hl : mLs es last) (h : ¬ mGood9 ref len (pos, es) (mGkd by_ last s).1 (mGe by_ ref (pos + mPs es) (mGkd by_ last s).1 (mGkd by_ last s).2).1) :
    mTk by_ ref len pos (n + 1) es last s = none := by
  simp only [mTk]
  rw [if_neg (by omega)]
  by_cases c1 : ((mGkd by_ last s).1 = 0 ∨ (mGkd by_ last s).1 = 3) ∧ (mGkd by_ last s).1 = last
  · rw [if_pos c1]
  · rw [if_neg c1]
    by_cases c2 : (mGkd by_ last s).1 = 1 ∧ len ≤ pos + mPs es
    · rw [if_pos c2]
    · rw [if_neg c2]
      rw [if_neg (fun c3 => h ⟨fun q => c1 ((hl.2 _ h4).mp q), c2, c3⟩)]
theorem pRb.kept {M M' : zM} {a : Nat} {ref : Nat → Nat} {len : Nat} {rd : mRd} (h : pRb M a ref len rd) (h9 : ∀ b, a ≤ b → b ≤ a + 3 → M'.1 b = M.1 b) : pRb M' a ref len rd :=
  ⟨h.1.kept (h9 _ (by omega) (by omega)) (h9 _ (by omega) (by omega)) (h9 _ (by omega) (by omega)), h.2.1.kept (h9 _ (by omega) (by omega)), h.2.2⟩
set_option maxHeartbeats 4000000 in
set_option maxRecDepth 100000 in
/-- readRead(reference, read, positionBefore) -/
theorem c_De_readRead (l : Launch) (E : zE) (Γ : zG) (n : Nat) (M : zM) (X rr len a m b fu : Nat) (ref by_ : Nat → Nat) (s : mDe) (hs : pDs Γ M.2.2 X) (hrs : pRs Γ M.2.2 rr) (hrf : pRf M rr len ref) (hsh : pSh Γ M.2.2 a) (hap : pApart X a rr) (hpd : pDf M X m by_ s fu) (hfu : 304 ≤ fu) (hb : b ≤ 255) :
    zCt l E Y_De_readRead 5 (0, 0) [.ref X, .ref rr, .ref a, .int (nI b)] Γ n M (zPi Γ n (fun v M' => zOm (sRd X a) M M' ∧ ((∃ rd t, mTr by_ ref len b s = some (rd, t) ∧ v = nI 1 ∧ 0 < mBc rd.2 ∧ pRb M' a ref len rd ∧ ∃ f', fu ≤ f' + 304 ∧ pDf M' X m by_ t f') ∨ v = nI 0 ∧ mTr by_ ref len b s = none))) := by
  refine zCt.of [(0, .ref X), (1, .ref rr), (2, .ref a), (3, .int (nI b))] (by decide) (Nat.le_of_ble_eq_true rfl) rfl (fun f hfl hx hQ => ?_)
  have hg0 := hs.1
  have hX0 := hs.2.2.2.2.2
  have hR0 := hrs.1
  have hR9 := hrs.2.2.2
  have hA0 := hsh.1.1
  have ha0 := hsh.out
  have hap0 := hap
  obtain ⟨ap1, ap2, ap3⟩ := hap
  have hap := hap0
  have hr160 := hrf.2.2.1
  have hr4 := hrf.2.2.2
  obtain ⟨f0, hf0, hN⟩ := dN (by_ := by_) (g := 0) (v := 0) s fu (by omega)
  have hw := mGn_lt by_ 0 s
  have hT0 : mTr by_ ref len b s = if len < b + (mGn by_ 0 s).1 then none else match mTk by_ ref len (b + (mGn by_ 0 s).1) 13 [] 4 (mGn by_ 0 s).2 with
    | none => none
    | some (es, u) => some ((b + (mGn by_ 0 s).1, es), u) := rfl
  generalize (mGn by_ 0 s).1 = wd at hN hw hT0
  generalize (mGn by_ 0 s).2 = t at hN hT0
  have hN : xN (dR by_) 0 0 (s, fu) = some (wd, (t, f0)) := hN
  refine g_iload_n (q := 1) hx d_De_readRead_0 rfl rfl ?_
  refine g_aload_n (q := 2) hx d_De_readRead_1 rfl rfl ?_
  refine g_iconst (q := 3) (v := nI 0) hx d_De_readRead_2 rfl (by decide) ?_
  refine g_iconst (q := 4) (v := nI 0) hx d_De_readRead_3 rfl (by decide) ?_
  refine g_ci (q := 7) (zrunU hx d_De_readRead_4 rfl lk_De_49 (by assumption) rfl rfl (Nat.le_of_ble_eq_true rfl) (by decide) (by omega) (by omega) (c_Co_number _ E Γ n _ X 1 _ (dR by_) (dI M X m by_) (dBit hs) rfl lk_Co_40D hg0 (s, fu) ⟨zOm.rf, hpd.1, hpd.2.1, hpd.2.2⟩ 0 0 wd (t, f0) (by omega) (by omega) hN)) rfl (fun r4 Ma p4 => ?_)
  obtain ⟨rfl, i1, i2, i3, i4⟩ := p4
  dsimp only at i2 i3 i4
  have hrl1 : zi Ma rr 1 = nI len := by rw [i1.i (by unfold sDe; omega)]; exact hrf.1
  refine g_iadd (q := 8) hx d_De_readRead_7 rfl (nI_add _ _) ?_
  refine g_istore (q := 10) (lc' := [(4, _), (0, _), (1, _), (2, _), (3, _)]) hx d_De_readRead_8 rfl (by decide) rfl ?_
  refine g_iload (q := 12) hx d_De_readRead_10 rfl rfl ?_
  refine g_aload_n (q := 13) hx d_De_readRead_12 rfl rfl ?_
  refine g_geti (q := 16) hx d_De_readRead_13 rfl fl_De_53 (by assumption) hrl1 ?_
  refine g_icmp_le (q := 19) (t := 21) hx d_De_readRead_16 rfl rfl (nI_leI (by omega) (by omega)) (fun h16 => ?_) (fun h16 => ?_)
  · rw [if_neg (by omega)] at hT0
    obtain ⟨pos, hpos⟩ : ∃ pos, pos = b + wd := ⟨_, rfl⟩
    rw [← hpos] at hT0 ⊢
    refine g_aload_n (q := 22) hx d_De_readRead_21 rfl rfl ?_
    refine g_iload (q := 24) hx d_De_readRead_22 rfl rfl ?_
    refine g_cv (q := 27) (zrunV hx d_De_readRead_24 lk_De_58 rfl rfl (by assumption) rfl rfl (Nat.le_of_ble_eq_true rfl) (by decide) (by omega) (by omega) (c_Rd_begin _ E Γ n _ a _ hA0)) rfl (fun Mb p24 => ?_)
    have zb : zOm (sRd X a) M Mb := by
      rw [p24]
      exact ((((i1.mono (fun b q => by unfold sRd; omega)).si (by unfold sRd; omega)).si (by unfold sRd; omega)).si (by unfold sRd; omega)).si (by unfold sRd; omega)
    have zi9 : ∀ c, c ≠ a → Mb.1 c = Ma.1 c := fun c hc => by
      rw [p24, zi_b hc, zi_b hc, zi_b hc, zi_b hc]
    have zl9 : Mb.2 = Ma.2 := by rw [p24]; rfl
    have hpb : pRb Mb a ref len (pos, []) := by
      refine ⟨⟨?_, ?_, ?_, ?_, fun j hj => absurd hj (Nat.not_lt_zero _)⟩, fun j hj => absurd hj (Nat.not_lt_zero _), by dsimp only; omega, trivial, Nat.zero_le _, Nat.zero_le _⟩
      · rw [p24, zi_k (by omega), zi_k (by omega), zi_k (by omega), zi_s]
      · rw [p24, zi_k (by omega), zi_k (by omega), zi_s]; rfl
      · rw [p24, zi_k (by omega), zi_s]; rfl
      · rw [p24, zi_s]; rfl
    have zq : ∀ c j, c ≠ a → zi Mb c j = zi Ma c j := fun c j hc => by
      show Mb.1 c j = Ma.1 c j
      rw [zi9 c hc]
    have hdb : pDf Mb X m by_ t f0 := by
      refine ⟨⟨?_, ?_, fun p hp => ?_, ?_, ?_, fun j hj => ?_, i2.2.2.2.2.2.2⟩, i3, i4⟩
      · show Mb.2.1 X 5 = _
        rw [zl9]; exact i2.1
      · show Mb.2.1 X 1 = _
        rw [zl9]; exact i2.2.1
      · rw [zq _ _ (by omega)]; exact i2.2.2.1 p hp
      · rw [zq _ _ (by omega)]; exact i2.2.2.2.1
      · rw [zq _ _ (by omega)]; exact i2.2.2.2.2.1
      · rw [zq _ _ (by omega)]; exact i2.2.2.2.2.2.1 j hj
    clear p24
    have hT : mTr by_ ref len b s = match mTk by_ ref len pos 13 [] 4 t with
      | none => none
      | some (es, u) => some ((pos, es), u) := hT0
    have loop : ∀ (i : Nat) (M1 : zM), ∀ (es : List (Nat × Nat)) (last : Nat) (s1 : mDe) (f1 : Nat), i ≤ 13 → zOm (sRd X a) M M1 → pDf M1 X m by_ s1 f1 → 22 * (13 - i) ≤ f1 → fu ≤ f1 + 18 + 22 * i → pRb M1 a ref len (pos, es) → mLs es last → mTk by_ ref len pos (13 - i) es last s1 = mTk by_ ref len pos 13 [] 4 t → zGo f E Γ n (0, 0) M1 33 [(6, .int (nI i)), (5, .int (nI last)), (4, .int (nI pos)), (0, .ref X), (1, .ref rr), (2, .ref a), (3, .int (nI b))] [] := by
      refine z_lp (fun i => 13 - i) _ ?_
      intro i M1 ih es last s1 f1 hi j1 j2 hf1 hff j4 hls hk
      have hl5 := hls.1
      refine g_iload (q := 35) hx d_De_readRead_33 rfl rfl ?_
      refine g_bipush (q := 37) (v := nI 12) hx d_De_readRead_35 rfl (by decide) ?_
      refine g_icmp_gt (q := 40) (t := 91) hx d_De_readRead_37 rfl rfl (nI_ltI (by omega) (by omega)) (fun h37 => ?_) (fun h37 => ?_)
      · obtain rfl : i = 13 := (by omega)
        refine g_iconst (q := 92) (v := nI 0) hx d_De_readRead_91 rfl (by decide) ?_
        exact g_zret hx d_De_readRead_92 rfl (by decide) hQ ⟨Nat.le_refl _, Nat.le_refl _⟩ ⟨_, rfl, rfl, rfl, j1, Or.inr ⟨rfl, by rw [hT, ← hk]; rfl⟩⟩
      · rw [show 13 - i = (12 - i) + 1 by omega] at hk
        obtain ⟨f2, hf2, hK⟩ := dKd (by_ := by_) (b := last) (kd := 4) s1 f1 (by omega)
        have hk5 := mGkd_lt by_ last s1
        have hs1 : pDs Γ M1.2.2 X := by rw [j1.r]; exact hs
        refine g_aload_n (q := 41) hx d_De_readRead_40 rfl rfl ?_
        refine g_iload (q := 43) hx d_De_readRead_41 rfl rfl ?_
        refine g_iconst (q := 44) (v := nI 4) hx d_De_readRead_43 rfl (by decide) ?_
        refine g_ci (q := 47) (zrunU hx d_De_readRead_44 rfl lk_De_64 (by assumption) rfl rfl (Nat.le_of_ble_eq_true rfl) (by decide) (by omega) (by omega) (c_Co_kind _ E Γ n _ X 1 _ (dR by_) (dI M1 X m by_) (dBit hs1) rfl lk_Co_40D hg0 (s1, f1) ⟨zOm.rf, j2.1, j2.2.1, j2.2.2⟩ last 4 _ _ hls.1 (by omega) hK)) rfl (fun r44 M2 p44 => ?_)
        obtain ⟨rfl, i1, i2, i3, i4⟩ := p44
        dsimp only at i2 i3 i4
        have j4' : pRb M2 a ref len (pos, es) := j4.kept (fun b h1 h2 => (i1.2 b (by unfold sDe; omega)).1)
        have j1' : zOm (sRd X a) M M2 := j1.tr (i1.mono (fun b q => by unfold sRd; omega))
        refine g_istore (q := 49) (lc' := [(7, _), (6, _), (5, _), (4, _), (0, _), (1, _), (2, _), (3, _)]) hx d_De_readRead_47 rfl (by decide) rfl ?_
        refine g_iload (q := 51) hx d_De_readRead_49 rfl rfl ?_
        refine g_iconst (q := 52) (v := nI 4) hx d_De_readRead_51 rfl (by decide) ?_
        refine g_icmp_ne (q := 55) (t := 68) hx d_De_readRead_52 rfl rfl (not_congr (nI_eq (by omega) (by omega))) (fun h52 => ?_) (fun h52 => ?_)
        · have hk4 : (mGkd by_ last s1).1 < 4 := by omega
          have hs2 : pDs Γ M2.2.2 X := by rw [j1'.r]; exact hs
          have hrs2 : pRs Γ M2.2.2 rr := by rw [j1'.r]; exact hrs
          have hsh2 : pSh Γ M2.2.2 a := by rw [j1'.r]; exact hsh
          have hrf2 : pRf M2 rr len ref := hrf.kept (j1'.2 _ (by unfold sRd; omega)).1 (j1'.2 _ (by unfold sRd; omega)).1
          refine g_aload_n (q := 69) hx d_De_readRead_68 rfl rfl ?_
          refine g_aload_n (q := 70) hx d_De_readRead_69 rfl rfl ?_
          refine g_aload_n (q := 71) hx d_De_readRead_70 rfl rfl ?_
          refine g_iload (q := 73) hx d_De_readRead_71 rfl rfl ?_
          refine g_ci (q := 76) (zrunV hx d_De_readRead_73 lk_De_70 rfl rfl (by assumption) rfl rfl (Nat.le_of_ble_eq_true rfl) (by decide) (by omega) (by omega) (c_De_readEdit _ E Γ n _ X rr len a m (mGkd by_ last s1).1 f2 ref by_ (mGkd by_ last s1).2 (pos, es) hs2 hrs2 hrf2 hsh2 hap ⟨i2, i3, i4⟩ (by omega) j4' hk4)) rfl (fun r73 M3 p73 => ?_)
          obtain ⟨z3, p73⟩ := p73
          have j13 := j1'.tr z3
          rcases p73 with ⟨rfl, hg, f3, hf3, hpd3, hpr3⟩ | ⟨rfl, hg⟩
          · refine g_if_ne (q := 79) (t := 81) hx d_De_readRead_76 rfl rfl (zb_ne0 (by omega)) (fun h76 => ?_) (fun h76 => ?_)
            · refine g_iload (q := 83) hx d_De_readRead_81 rfl rfl ?_
              refine g_istore (q := 85) (lc' := [(5, _), (7, _), (6, _), (4, _), (0, _), (1, _), (2, _), (3, _)]) hx d_De_readRead_83 rfl (by decide) rfl ?_
              refine g_iinc (q := 88) (lc' := [(6, _), (5, _), (7, _), (4, _), (0, _), (1, _), (2, _), (3, _)]) hx d_De_readRead_85 rfl rfl (z_inc _) (by decide) rfl ?_
              refine g_goto (q := 33) hx d_De_readRead_88 rfl ?_
              rw [mTk_yes hk4 hls hg] at hk
              refine z_perm (lc' := [(6, .int (nI (i + 1))), (5, .int (nI (mGkd by_ last s1).1)), (4, .int (nI pos)), (0, .ref X), (1, .ref rr), (2, .ref a), (3, .int (nI b))]) (fun q hq => by simp only [List.mem_cons, List.not_mem_nil, or_false] at hq ⊢; rcases hq with h | h | h | h | h | h | h <;> simp [h]) ?_
              exact ih (i + 1) M3 (by show 13 - (i + 1) < 13 - i; omega) _ _ _ f3 (by omega) j13 hpd3 (by omega) (by omega) hpr3 (mLs_n hk4) (by rw [show 13 - (i + 1) = 12 - i by omega]; exact hk)
            · exact absurd h76 (by omega)
          · refine g_if_ne (q := 79) (t := 81) hx d_De_readRead_76 rfl rfl (zb_ne0 (by omega)) (fun h76 => ?_) (fun h76 => ?_)
            · exact absurd h76 (by omega)
            · refine g_iconst (q := 80) (v := nI 0) hx d_De_readRead_79 rfl (by decide) ?_
              exact g_zret hx d_De_readRead_80 rfl (by decide) hQ ⟨Nat.le_refl _, Nat.le_refl _⟩ ⟨_, rfl, rfl, rfl, j13, Or.inr ⟨rfl, by rw [hT, ← hk, mTk_no hk4 hls hg]⟩⟩
        · have hq3 := j4'.1.2.2.1
          have h20 := j4'.2.2.2.2.1
          dsimp only at hq3 h20
          rw [mTk_end (by omega)] at hk
          refine g_aload_n (q := 56) hx d_De_readRead_55 rfl rfl ?_
          refine g_geti (q := 59) hx d_De_readRead_56 rfl fl_De_67 (by assumption) hq3 ?_
          refine g_if_le (q := 62) (t := 66) hx d_De_readRead_59 rfl rfl (zb_le0 (by omega)) (fun h59 => ?_) (fun h59 => ?_)
          · refine g_iconst (q := 67) (v := nI 0) hx d_De_readRead_66 rfl (by decide) ?_
            exact g_zret hx d_De_readRead_67 rfl (by decide) hQ ⟨Nat.le_refl _, Nat.le_refl _⟩ ⟨_, rfl, rfl, rfl, j1', Or.inr ⟨rfl, by rw [hT, ← hk, if_neg (by omega)]⟩⟩
          · refine g_iconst (q := 63) (v := nI 1) hx d_De_readRead_62 rfl (by decide) ?_
            refine g_goto (q := 67) hx d_De_readRead_63 rfl ?_
            exact g_zret hx d_De_readRead_67 rfl (by decide) hQ ⟨Nat.le_refl _, Nat.le_refl _⟩ ⟨_, rfl, rfl, rfl, j1', Or.inl ⟨(pos, es), _, by rw [hT, ← hk, if_pos (by omega)], rfl, by dsimp only; omega, j4', f2, by omega, i2, i3, i4⟩⟩
    refine g_iconst (q := 28) (v := nI 4) hx d_De_readRead_27 rfl (by decide) ?_
    refine g_istore (q := 30) (lc' := [(5, _), (4, _), (0, _), (1, _), (2, _), (3, _)]) hx d_De_readRead_28 rfl (by decide) rfl ?_
    refine g_iconst (q := 31) (v := nI 0) hx d_De_readRead_30 rfl (by decide) ?_
    refine g_istore (q := 33) (lc' := [(6, _), (5, _), (4, _), (0, _), (1, _), (2, _), (3, _)]) hx d_De_readRead_31 rfl (by decide) rfl ?_
    exact loop 0 Mb [] 4 t f0 (by omega) zb hdb (by omega) (by omega) hpb mLs_0 rfl
  · refine g_iconst (q := 20) (v := nI 0) hx d_De_readRead_19 rfl (by decide) ?_
    exact g_zret hx d_De_readRead_20 rfl (by decide) hQ ⟨Nat.le_refl _, Nat.le_refl _⟩ ⟨_, rfl, rfl, rfl, i1.mono (fun b q => by unfold sRd; omega), Or.inr ⟨rfl, by rw [hT0, if_pos (by omega)]⟩⟩
