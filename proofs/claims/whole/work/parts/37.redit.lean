/-! reading a read into the Read at a, by the decoder at X, over the reference at rr -/
abbrev sRd (X a : Nat) : Nat → Prop := fun b => b = X ∨ b = X + 1 ∨ a ≤ b ∧ b ≤ a + 3
/-- what lies apart -/
def pApart (X a rr : Nat) : Prop := (a + 3 < X ∨ X + 2 < a) ∧ (a + 3 < rr ∨ rr + 1 < a) ∧ (rr + 1 < X ∨ X + 2 < rr)
/-- the decoder in its state s, for f more bits -/
def pDf (M : zM) (X m : Nat) (by_ : Nat → Nat) (s : mDe) (f : Nat) : Prop := pDe M X m by_ s ∧ mDi s ∧ s.2.2.2 + f < 100000
/-- the read so far -/
def pRb (M : zM) (a : Nat) (ref : Nat → Nat) (len : Nat) (rd : mRd) : Prop := pRd M a rd ∧ pBs M a ref rd ∧ mOk ref len rd
theorem mFits_ks {ref : Nat → Nat} {len : Nat} : ∀ {es : List (Nat × Nat)} {at_ : Nat}, mFits ref len at_ es → mKs es
  | [], _, _ => fun j hj => absurd hj (Nat.not_lt_zero _)
  | e :: es, at_, h => fun j hj => by
    cases j with
    | zero => exact mFit_kind h.1
    | succ j => exact mFits_ks h.2 j (Nat.lt_of_succ_lt_succ hj)
theorem zFit_iff {ref : Nat → Nat} {len at_ k m : Nat} (hk : k < 4) (hm : m < 2 ^ 31) : zFit ref len at_ (nI k) (nI m) ↔ mFit ref len at_ (k, m) := by
  constructor
  · rintro ⟨k', m', h1, h2, h3, h4, h5⟩
    have e1 := (nI_eq (by omega) (by omega)).mp h2
    have e2 := (nI_eq hm h1).mp h4
    subst e1; subst e2
    exact h5
  · intro h
    exact ⟨k, m, hm, rfl, hk, rfl, h⟩
theorem mMay_iff {ref : Nat → Nat} {len pos k m : Nat} {es : List (Nat × Nat)} (hk : k < 4) : mMay ref len pos es (k, m) = true ↔ mFit ref len (pos + mPs es) (k, m) ∧ mBc es + mCnt (k, m) ≤ 20 ∧ es.length < 12 := by
  unfold mMay mFit
  dsimp only
  rw [Bool.and_eq_true, decide_eq_true_iff]
  refine and_congr ?_ Iff.rfl
  obtain rfl | rfl | rfl | rfl : k = 0 ∨ k = 1 ∨ k = 2 ∨ k = 3 := by omega
  all_goals simp
/-- an edit that is read and taken -/
def mGood9 (ref : Nat → Nat) (len : Nat) (rd : mRd) (k m : Nat) : Prop := ¬ mJn rd.2 k ∧ ¬ (k = 1 ∧ len ≤ rd.1 + mPs rd.2) ∧ mMay ref len rd.1 rd.2 (k, m) = true
set_option maxHeartbeats 4000000 in
set_option maxRecDepth 100000 in
/-- readEdit(reference, read, kind) -/
theorem c_De_readEdit (l : Launch) (E : zE) (Γ : zG) (n : Nat) (M : zM) (X rr len a m k fu : Nat) (ref by_ : Nat → Nat) (s : mDe) (rd : mRd) (hs : pDs Γ M.2.2 X) (hrs : pRs Γ M.2.2 rr) (hrf : pRf M rr len ref) (hsh : pSh Γ M.2.2 a) (hap : pApart X a rr) (hpd : pDf M X m by_ s fu) (hfu : 18 ≤ fu) (hpr : pRb M a ref len rd) (hk : k < 4) :
    zCt l E Y_De_readEdit 4 (0, 0) [.ref X, .ref rr, .ref a, .int (nI k)] Γ n M (zPi Γ n (fun v M' => zOm (sRd X a) M M' ∧ (v = nI 1 ∧ mGood9 ref len rd k (mGe by_ ref (rd.1 + mPs rd.2) k s).1 ∧ (∃ f', fu ≤ f' + 18 ∧ pDf M' X m by_ (mGe by_ ref (rd.1 + mPs rd.2) k s).2 f' ∧ pRb M' a ref len (rd.1, rd.2 ++ [(k, (mGe by_ ref (rd.1 + mPs rd.2) k s).1)])) ∨ v = nI 0 ∧ ¬ mGood9 ref len rd k (mGe by_ ref (rd.1 + mPs rd.2) k s).1))) := by
  refine zCt.of [(0, .ref X), (1, .ref rr), (2, .ref a), (3, .int (nI k))] (by decide) (Nat.le_of_ble_eq_true rfl) rfl (fun f hfl hx hQ => ?_)
  have hg0 := hs.1
  have hX0 := hs.2.2.2.2.2
  have hR0 := hrs.1
  have hR9 := hrs.2.2.2
  have hA0 := hsh.1.1
  have ha0 := hsh.out
  obtain ⟨ap1, ap2, ap3⟩ := hap
  obtain ⟨hrd, hbs, hok⟩ := hpr
  have hks := mFits_ks hok.2.1
  have hp := mPs_fit hok
  have h12 := hok.2.2.2
  have h20 := hok.2.2.1
  have hrl := hrf.1
  have hr160 := hrf.2.2.1
  have hr4 := hrf.2.2.2
  obtain ⟨q1, q2, q3, q4, q5⟩ := hrd
  have hrd : pRd M a rd := ⟨q1, q2, q3, q4, q5⟩
  refine g_aload_n (q := 1) hx d_De_readEdit_0 rfl rfl ?_
  refine g_iload_n (q := 2) hx d_De_readEdit_1 rfl rfl ?_
  refine g_ci (q := 5) (zrunV hx d_De_readEdit_2 lk_De_74 rfl rfl (by assumption) rfl rfl (Nat.le_of_ble_eq_true rfl) (by decide) (by omega) (by omega) (c_Rd_lengthensLast _ E Γ n _ a rd.2 (nI k) hsh q2 (fun j hj => (q5 j hj).1) h12)) rfl (fun r2 M2 p2 => ?_)
  obtain ⟨rfl, p2⟩ := p2
  rcases p2 with ⟨rfl, hz⟩ | ⟨rfl, hz⟩ <;> rw [zLen_iff hk hks] at hz
  · refine g_if_ne (q := 8) (t := 24) hx d_De_readEdit_5 rfl rfl (zb_ne0 (by omega)) (fun h5 => ?_) (fun h5 => ?_)
    · refine g_iconst (q := 25) (v := nI 0) hx d_De_readEdit_24 rfl (by decide) ?_
      exact g_zret hx d_De_readEdit_25 rfl (by decide) hQ ⟨Nat.le_refl _, Nat.le_refl _⟩ ⟨_, rfl, rfl, rfl, zOm.rf, Or.inr ⟨rfl, fun g => by first | exact g.1 hz | (have := g.2.1; omega)⟩⟩
    · exact absurd h5 (by omega)
  · refine g_if_ne (q := 8) (t := 24) hx d_De_readEdit_5 rfl rfl (zb_ne0 (by omega)) (fun h5 => ?_) (fun h5 => ?_)
    · exact absurd h5 (by omega)
    · refine g_iload_n (q := 9) hx d_De_readEdit_8 rfl rfl ?_
      refine g_iconst (q := 10) (v := nI 1) hx d_De_readEdit_9 rfl (by decide) ?_
      refine g_icmp_ne (q := 13) (t := 26) hx d_De_readEdit_10 rfl rfl (not_congr (nI_eq (by omega) (by omega))) (fun h10 => ?_) (fun h10 => ?_)
      · have hat : k = 1 → rd.1 + mPs rd.2 < len := by omega
        obtain ⟨f', hf', hE⟩ := dE (by_ := by_) (ref := ref) (at_ := rd.1 + mPs rd.2) hk s fu hfu
        have hn1 := mGe_le by_ ref (rd.1 + mPs rd.2) k s hr4
        generalize (mGe by_ ref (rd.1 + mPs rd.2) k s).1 = num at hE hn1 hQ
        generalize (mGe by_ ref (rd.1 + mPs rd.2) k s).2 = t at hE hQ
        refine g_aload_n (q := 27) hx d_De_readEdit_26 rfl rfl ?_
        refine g_aload_n (q := 28) hx d_De_readEdit_27 rfl rfl ?_
        refine g_aload_n (q := 29) hx d_De_readEdit_28 rfl rfl ?_
        refine g_ci (q := 32) (zrunV hx d_De_readEdit_29 lk_De_78 rfl rfl (by assumption) rfl rfl (Nat.le_of_ble_eq_true rfl) (by decide) (by omega) (by omega) ((c_Rd_placeN _ E Γ n _ a rd.1 (mPs rd.2) hA0 q1 q4))) rfl (fun r29 M29 p29 => ?_)
        obtain ⟨rfl, e29⟩ := p29
        subst e29
        refine g_iload_n (q := 33) hx d_De_readEdit_32 rfl rfl ?_
        refine g_iconst (q := 34) (v := nI 1) hx d_De_readEdit_33 rfl (by decide) ?_
        refine g_ci (q := 37) (zrunU hx d_De_readEdit_34 rfl lk_De_82 (by assumption) rfl rfl (Nat.le_of_ble_eq_true rfl) (by decide) (by omega) (by omega) (c_Co_editNumber _ E Γ n _ X 1 _ (dR by_) (dI M29 X m by_) (dBit hs) rfl lk_Co_40D hg0 (s, fu) ⟨zOm.rf, hpd.1, hpd.2.1, hpd.2.2⟩ ⟨lk_Co_44D, lk_Co_52D, lk_Co_55D⟩ rr len ref hrs hrf (rd.1 + mPs rd.2) k 1 num (t, f') hk (by omega) (by omega) hat hE)) rfl (fun r34 M1 p34 => ?_)
        obtain ⟨rfl, i1, i2, i3, i4⟩ := p34
        dsimp only at i2 i3 i4
        have hsh1 : pSh Γ M1.2.2 a := by rw [i1.r]; exact hsh
        have hrs1 : pRs Γ M1.2.2 rr := by rw [i1.r]; exact hrs
        have hrf1 : pRf M1 rr len ref := hrf.kept (i1.2 _ (by unfold sDe; omega)).1 (i1.2 _ (by unfold sDe; omega)).1
        have hrd1 : pRd M1 a rd := hrd.kept (i1.2 _ (by unfold sDe; omega)).1 (i1.2 _ (by unfold sDe; omega)).1 (i1.2 _ (by unfold sDe; omega)).1
        have hbs1 : pBs M1 a ref rd := hbs.kept (i1.2 _ (by unfold sDe; omega)).1
        have z1 : zOm (sRd X a) M29 M1 := i1.mono (fun b q => by unfold sRd; omega)
        refine g_istore (q := 39) (lc' := [(4, _), (0, _), (1, _), (2, _), (3, _)]) hx d_De_readEdit_37 rfl (by decide) rfl ?_
        refine g_aload_n (q := 40) hx d_De_readEdit_39 rfl rfl ?_
        refine g_aload_n (q := 41) hx d_De_readEdit_40 rfl rfl ?_
        refine g_iload_n (q := 42) hx d_De_readEdit_41 rfl rfl ?_
        refine g_iload (q := 44) hx d_De_readEdit_42 rfl rfl ?_
        refine g_ci (q := 47) (zrunV hx d_De_readEdit_44 lk_De_86 rfl rfl (by assumption) rfl rfl (Nat.le_of_ble_eq_true rfl) (by decide) (by omega) (by omega) (c_Rd_fits _ E Γ n _ a rr len ref rd (nI k) (nI num) hsh1 hrs1 hrd1 hrf1 hp)) rfl (fun r44 M44 p44 => ?_)
        obtain ⟨e44, p44⟩ := p44
        subst e44
        rcases p44 with ⟨rfl, hy⟩ | ⟨rfl, hy⟩ <;> rw [zFit_iff hk (by omega)] at hy
        · refine g_if_eq (q := 50) (t := 60) hx d_De_readEdit_47 rfl rfl (zb_eq0 (by omega)) (fun h47 => ?_) (fun h47 => ?_)
          · exact absurd h47 (by omega)
          · refine g_aload_n (q := 51) hx d_De_readEdit_50 rfl rfl ?_
            refine g_iload_n (q := 52) hx d_De_readEdit_51 rfl rfl ?_
            refine g_iload (q := 54) hx d_De_readEdit_52 rfl rfl ?_
            refine g_ci (q := 57) (zrunV hx d_De_readEdit_54 lk_De_90 rfl rfl (by assumption) rfl rfl (Nat.le_of_ble_eq_true rfl) (by decide) (by omega) (by omega) (c_Rd_hasRoom _ E Γ n _ a rd k num hsh1 hrd1 h12 h20 hk (by omega) hks)) rfl (fun r54 M54 p54 => ?_)
            obtain ⟨e54, p54⟩ := p54
            subst e54
            rcases p54 with ⟨rfl, hw⟩ | ⟨rfl, hw⟩
            · refine g_if_ne (q := 60) (t := 62) hx d_De_readEdit_57 rfl rfl (zb_ne0 (by omega)) (fun h57 => ?_) (fun h57 => ?_)
              · refine g_aload_n (q := 63) hx d_De_readEdit_62 rfl rfl ?_
                refine g_aload_n (q := 64) hx d_De_readEdit_63 rfl rfl ?_
                refine g_iload_n (q := 65) hx d_De_readEdit_64 rfl rfl ?_
                refine g_iload (q := 67) hx d_De_readEdit_65 rfl rfl ?_
                refine g_cv (q := 70) (zrunV hx d_De_readEdit_67 lk_De_94 rfl rfl (by assumption) rfl rfl (Nat.le_of_ble_eq_true rfl) (by decide) (by omega) (by omega) (c_Rd_add _ E Γ n _ a rr len ref rd k num hsh1 hrs1 hrd1 hrf1 hy hw h12 hks)) rfl (fun M2 p67 => ?_)
                obtain ⟨a1, a2, a3⟩ := p67
                have a3 := a3 hbs1
                have hmo := mAdd_ok hok hy hw
                rw [mAdd_n hz] at a2 a3 hmo
                have hlt : rd.2.length < 12 := hw.2.elim (fun q => absurd q hz) id
                refine g_iconst (q := 71) (v := nI 1) hx d_De_readEdit_70 rfl (by decide) ?_
                exact g_zret hx d_De_readEdit_71 rfl (by decide) hQ ⟨Nat.le_refl _, Nat.le_refl _⟩ ⟨_, rfl, rfl, rfl, z1.tr (a1.om.mono (fun b q => by unfold sRd; omega)), Or.inl ⟨rfl, ⟨hz, by omega, (mMay_iff hk).mpr ⟨hy, hw.1, hlt⟩⟩, f', hf', ⟨⟨by show M2.2.1 X 5 = _; rw [a1.l]; exact i2.1, by show M2.2.1 X 1 = _; rw [a1.l]; exact i2.2.1, fun p hp => (a1.i (by omega) _).trans (i2.2.2.1 p hp), (a1.i (by omega) _).trans i2.2.2.2.1, (a1.i (by omega) _).trans i2.2.2.2.2.1, fun j hj => (a1.i (by omega) _).trans (i2.2.2.2.2.2.1 j hj), i2.2.2.2.2.2.2⟩, i3, i4⟩, a2, a3, hmo⟩⟩
              · exact absurd h57 (by omega)
            · refine g_if_ne (q := 60) (t := 62) hx d_De_readEdit_57 rfl rfl (zb_ne0 (by omega)) (fun h57 => ?_) (fun h57 => ?_)
              · exact absurd h57 (by omega)
              · refine g_iconst (q := 61) (v := nI 0) hx d_De_readEdit_60 rfl (by decide) ?_
                exact g_zret hx d_De_readEdit_61 rfl (by decide) hQ ⟨Nat.le_refl _, Nat.le_refl _⟩ ⟨_, rfl, rfl, rfl, z1, Or.inr ⟨rfl, fun g => by
                    have g3 := (mMay_iff hk).mp g.2.2
                    first | exact hy g3.1 | exact hw ⟨g3.2.1, Or.inr g3.2.2⟩⟩⟩
        · refine g_if_eq (q := 50) (t := 60) hx d_De_readEdit_47 rfl rfl (zb_eq0 (by omega)) (fun h47 => ?_) (fun h47 => ?_)
          · refine g_iconst (q := 61) (v := nI 0) hx d_De_readEdit_60 rfl (by decide) ?_
            exact g_zret hx d_De_readEdit_61 rfl (by decide) hQ ⟨Nat.le_refl _, Nat.le_refl _⟩ ⟨_, rfl, rfl, rfl, z1, Or.inr ⟨rfl, fun g => by
                have g3 := (mMay_iff hk).mp g.2.2
                first | exact hy g3.1 | exact hw ⟨g3.2.1, Or.inr g3.2.2⟩⟩⟩
          · exact absurd h47 (by omega)
      · refine g_aload_n (q := 14) hx d_De_readEdit_13 rfl rfl ?_
        refine g_ci (q := 17) (zrunV hx d_De_readEdit_14 lk_De_78 rfl rfl (by assumption) rfl rfl (Nat.le_of_ble_eq_true rfl) (by decide) (by omega) (by omega) ((c_Rd_placeN _ E Γ n _ a rd.1 (mPs rd.2) hA0 q1 q4))) rfl (fun r14 M14 p14 => ?_)
        obtain ⟨rfl, rfl⟩ := p14
        refine g_aload_n (q := 18) hx d_De_readEdit_17 rfl rfl ?_
        refine g_geti (q := 21) hx d_De_readEdit_18 rfl fl_De_53 (by assumption) hrl ?_
        refine g_icmp_lt (q := 24) (t := 26) hx d_De_readEdit_21 rfl rfl (nI_ltI (by omega) (by omega)) (fun h21 => ?_) (fun h21 => ?_)
        · have hat : k = 1 → rd.1 + mPs rd.2 < len := by omega
          obtain ⟨f', hf', hE⟩ := dE (by_ := by_) (ref := ref) (at_ := rd.1 + mPs rd.2) hk s fu hfu
          have hn1 := mGe_le by_ ref (rd.1 + mPs rd.2) k s hr4
          generalize (mGe by_ ref (rd.1 + mPs rd.2) k s).1 = num at hE hn1 hQ
          generalize (mGe by_ ref (rd.1 + mPs rd.2) k s).2 = t at hE hQ
          refine g_aload_n (q := 27) hx d_De_readEdit_26 rfl rfl ?_
          refine g_aload_n (q := 28) hx d_De_readEdit_27 rfl rfl ?_
          refine g_aload_n (q := 29) hx d_De_readEdit_28 rfl rfl ?_
          refine g_ci (q := 32) (zrunV hx d_De_readEdit_29 lk_De_78 rfl rfl (by assumption) rfl rfl (Nat.le_of_ble_eq_true rfl) (by decide) (by omega) (by omega) ((c_Rd_placeN _ E Γ n _ a rd.1 (mPs rd.2) hA0 q1 q4))) rfl (fun r29 M29 p29 => ?_)
          obtain ⟨rfl, e29⟩ := p29
          subst e29
          refine g_iload_n (q := 33) hx d_De_readEdit_32 rfl rfl ?_
          refine g_iconst (q := 34) (v := nI 1) hx d_De_readEdit_33 rfl (by decide) ?_
          refine g_ci (q := 37) (zrunU hx d_De_readEdit_34 rfl lk_De_82 (by assumption) rfl rfl (Nat.le_of_ble_eq_true rfl) (by decide) (by omega) (by omega) (c_Co_editNumber _ E Γ n _ X 1 _ (dR by_) (dI M29 X m by_) (dBit hs) rfl lk_Co_40D hg0 (s, fu) ⟨zOm.rf, hpd.1, hpd.2.1, hpd.2.2⟩ ⟨lk_Co_44D, lk_Co_52D, lk_Co_55D⟩ rr len ref hrs hrf (rd.1 + mPs rd.2) k 1 num (t, f') hk (by omega) (by omega) hat hE)) rfl (fun r34 M1 p34 => ?_)
          obtain ⟨rfl, i1, i2, i3, i4⟩ := p34
          dsimp only at i2 i3 i4
          have hsh1 : pSh Γ M1.2.2 a := by rw [i1.r]; exact hsh
          have hrs1 : pRs Γ M1.2.2 rr := by rw [i1.r]; exact hrs
          have hrf1 : pRf M1 rr len ref := hrf.kept (i1.2 _ (by unfold sDe; omega)).1 (i1.2 _ (by unfold sDe; omega)).1
          have hrd1 : pRd M1 a rd := hrd.kept (i1.2 _ (by unfold sDe; omega)).1 (i1.2 _ (by unfold sDe; omega)).1 (i1.2 _ (by unfold sDe; omega)).1
          have hbs1 : pBs M1 a ref rd := hbs.kept (i1.2 _ (by unfold sDe; omega)).1
          have z1 : zOm (sRd X a) M29 M1 := i1.mono (fun b q => by unfold sRd; omega)
          refine g_istore (q := 39) (lc' := [(4, _), (0, _), (1, _), (2, _), (3, _)]) hx d_De_readEdit_37 rfl (by decide) rfl ?_
          refine g_aload_n (q := 40) hx d_De_readEdit_39 rfl rfl ?_
          refine g_aload_n (q := 41) hx d_De_readEdit_40 rfl rfl ?_
          refine g_iload_n (q := 42) hx d_De_readEdit_41 rfl rfl ?_
          refine g_iload (q := 44) hx d_De_readEdit_42 rfl rfl ?_
          refine g_ci (q := 47) (zrunV hx d_De_readEdit_44 lk_De_86 rfl rfl (by assumption) rfl rfl (Nat.le_of_ble_eq_true rfl) (by decide) (by omega) (by omega) (c_Rd_fits _ E Γ n _ a rr len ref rd (nI k) (nI num) hsh1 hrs1 hrd1 hrf1 hp)) rfl (fun r44 M44 p44 => ?_)
          obtain ⟨e44, p44⟩ := p44
          subst e44
          rcases p44 with ⟨rfl, hy⟩ | ⟨rfl, hy⟩ <;> rw [zFit_iff hk (by omega)] at hy
          · refine g_if_eq (q := 50) (t := 60) hx d_De_readEdit_47 rfl rfl (zb_eq0 (by omega)) (fun h47 => ?_) (fun h47 => ?_)
            · exact absurd h47 (by omega)
            · refine g_aload_n (q := 51) hx d_De_readEdit_50 rfl rfl ?_
              refine g_iload_n (q := 52) hx d_De_readEdit_51 rfl rfl ?_
              refine g_iload (q := 54) hx d_De_readEdit_52 rfl rfl ?_
              refine g_ci (q := 57) (zrunV hx d_De_readEdit_54 lk_De_90 rfl rfl (by assumption) rfl rfl (Nat.le_of_ble_eq_true rfl) (by decide) (by omega) (by omega) (c_Rd_hasRoom _ E Γ n _ a rd k num hsh1 hrd1 h12 h20 hk (by omega) hks)) rfl (fun r54 M54 p54 => ?_)
              obtain ⟨e54, p54⟩ := p54
              subst e54
              rcases p54 with ⟨rfl, hw⟩ | ⟨rfl, hw⟩
              · refine g_if_ne (q := 60) (t := 62) hx d_De_readEdit_57 rfl rfl (zb_ne0 (by omega)) (fun h57 => ?_) (fun h57 => ?_)
                · refine g_aload_n (q := 63) hx d_De_readEdit_62 rfl rfl ?_
                  refine g_aload_n (q := 64) hx d_De_readEdit_63 rfl rfl ?_
                  refine g_iload_n (q := 65) hx d_De_readEdit_64 rfl rfl ?_
                  refine g_iload (q := 67) hx d_De_readEdit_65 rfl rfl ?_
                  refine g_cv (q := 70) (zrunV hx d_De_readEdit_67 lk_De_94 rfl rfl (by assumption) rfl rfl (Nat.le_of_ble_eq_true rfl) (by decide) (by omega) (by omega) (c_Rd_add _ E Γ n _ a rr len ref rd k num hsh1 hrs1 hrd1 hrf1 hy hw h12 hks)) rfl (fun M2 p67 => ?_)
                  obtain ⟨a1, a2, a3⟩ := p67
                  have a3 := a3 hbs1
                  have hmo := mAdd_ok hok hy hw
                  rw [mAdd_n hz] at a2 a3 hmo
                  have hlt : rd.2.length < 12 := hw.2.elim (fun q => absurd q hz) id
                  refine g_iconst (q := 71) (v := nI 1) hx d_De_readEdit_70 rfl (by decide) ?_
                  exact g_zret hx d_De_readEdit_71 rfl (by decide) hQ ⟨Nat.le_refl _, Nat.le_refl _⟩ ⟨_, rfl, rfl, rfl, z1.tr (a1.om.mono (fun b q => by unfold sRd; omega)), Or.inl ⟨rfl, ⟨hz, by omega, (mMay_iff hk).mpr ⟨hy, hw.1, hlt⟩⟩, f', hf', ⟨⟨by show M2.2.1 X 5 = _; rw [a1.l]; exact i2.1, by show M2.2.1 X 1 = _; rw [a1.l]; exact i2.2.1, fun p hp => (a1.i (by omega) _).trans (i2.2.2.1 p hp), (a1.i (by omega) _).trans i2.2.2.2.1, (a1.i (by omega) _).trans i2.2.2.2.2.1, fun j hj => (a1.i (by omega) _).trans (i2.2.2.2.2.2.1 j hj), i2.2.2.2.2.2.2⟩, i3, i4⟩, a2, a3, hmo⟩⟩
                · exact absurd h57 (by omega)
              · refine g_if_ne (q := 60) (t := 62) hx d_De_readEdit_57 rfl rfl (zb_ne0 (by omega)) (fun h57 => ?_) (fun h57 => ?_)
                · exact absurd h57 (by omega)
                · refine g_iconst (q := 61) (v := nI 0) hx d_De_readEdit_60 rfl (by decide) ?_
                  exact g_zret hx d_De_readEdit_61 rfl (by decide) hQ ⟨Nat.le_refl _, Nat.le_refl _⟩ ⟨_, rfl, rfl, rfl, z1, Or.inr ⟨rfl, fun g => by
                      have g3 := (mMay_iff hk).mp g.2.2
                      first | exact hy g3.1 | exact hw ⟨g3.2.1, Or.inr g3.2.2⟩⟩⟩
          · refine g_if_eq (q := 50) (t := 60) hx d_De_readEdit_47 rfl rfl (zb_eq0 (by omega)) (fun h47 => ?_) (fun h47 => ?_)
            · refine g_iconst (q := 61) (v := nI 0) hx d_De_readEdit_60 rfl (by decide) ?_
              exact g_zret hx d_De_readEdit_61 rfl (by decide) hQ ⟨Nat.le_refl _, Nat.le_refl _⟩ ⟨_, rfl, rfl, rfl, z1, Or.inr ⟨rfl, fun g => by
                  have g3 := (mMay_iff hk).mp g.2.2
                  first | exact hy g3.1 | exact hw ⟨g3.2.1, Or.inr g3.2.2⟩⟩⟩
            · exact absurd h47 (by omega)
        · refine g_iconst (q := 25) (v := nI 0) hx d_De_readEdit_24 rfl (by decide) ?_
          exact g_zret hx d_De_readEdit_25 rfl (by decide) hQ ⟨Nat.le_refl _, Nat.le_refl _⟩ ⟨_, rfl, rfl, rfl, zOm.rf, Or.inr ⟨rfl, fun g => by first | exact g.1 hz | (have := g.2.1; omega)⟩⟩
