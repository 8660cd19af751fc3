def mAt (rs : List mRd) (i : Nat) : mRd := rs.getD i (0, [])
theorem mAt_drop {rs : List mRd} {i : Nat} (h : i < rs.length) : rs.drop i = mAt rs i :: rs.drop (i + 1) := by
  rw [List.drop_eq_getElem_cons h]
  have e : mAt rs i = rs[i] := by simp [mAt, List.getD_eq_getElem?_getD, h]
  rw [e]
theorem mAt_mem {rs : List mRd} {r : mRd} (h : r ∈ rs) : ∃ i, i < rs.length ∧ mAt rs i = r := by
  obtain ⟨i, hi, e⟩ := List.getElem_of_mem h
  exact ⟨i, hi, by simp [mAt, List.getD_eq_getElem?_getD, hi, e]⟩
theorem mAt_0 {rs : List mRd} (h : 1 ≤ rs.length) : (mAt rs 0).1 = mFp rs := by
  cases rs with
  | nil => simp at h
  | cons r l => rfl
/-- reads that stand in a row of Read, from a place on; nothing of them lies in S -/
def pRow (Γ : zG) (M : zM) (S : Nat → Prop) (it fr : Nat) (ref : Nat → Nat) (len : Nat) (rs : List mRd) (ad : Nat → Nat) : Prop :=
  ∀ i, i < rs.length → zr M it (fr + i) = ad i ∧ pSh Γ M.2.2 (ad i) ∧ pRd M (ad i) (mAt rs i) ∧ sOff S (ad i) ∧ mOk ref len (mAt rs i)
theorem pRow.kept {Γ : zG} {M M' : zM} {S : Nat → Prop} {it fr : Nat} {ref : Nat → Nat} {len : Nat} {rs : List mRd} {ad : Nat → Nat} (h : pRow Γ M S it fr ref len rs ad) (hz : zOm S M M') : pRow Γ M' S it fr ref len rs ad := by
  intro i hi
  obtain ⟨h1, h2, h3, h4, h5⟩ := h i hi
  exact ⟨by show M'.2.2 it (fr + i) = _; rw [hz.r]; exact h1, by rw [hz.r]; exact h2, h3.kept (hz.2 _ h4.1).1 (hz.2 _ h4.2.1).1 (hz.2 _ h4.2.2.1).1, h4, h5⟩
theorem mPs_fit {ref : Nat → Nat} {len : Nat} {r : mRd} (h : mOk ref len r) : r.1 + mPs r.2 ≤ len := mFits_len _ _ h.1 h.2.1
set_option maxHeartbeats 4000000 in
set_option maxRecDepth 100000 in
/-- writeBlock(reference, row, from, count) -/
theorem c_En_writeBlock (l : Launch) (E : zE) (Γ : zG) (n : Nat) (M : zM) (X rr len it N fr : Nat) (ref : Nat → Nat) (rs : List mRd) (ad : Nat → Nat) (hs : pEs Γ M.2.2 X) (hrs : pRs Γ M.2.2 rr) (hrf : pRf M rr len ref) (ho : sOff (sEn X) rr) (hgi : Γ it = some (3, N)) (hN : N < 2 ^ 31) (hfr : fr + rs.length ≤ N) (hc1 : 1 ≤ rs.length) (hc3 : rs.length ≤ 3) (hrd : pRow Γ M (sEn X) it fr ref len rs ad) (hsort : ∀ i, i + 1 < rs.length → (mAt rs i).1 ≤ (mAt rs (i + 1)).1) :
    zCt l E Y_En_writeBlock 5 (0, 0) [.ref X, .ref rr, .ref it, .int (nI fr), .int (nI rs.length)] Γ n M (zPv Γ n (fun M' => zOm (sEn X) M M' ∧ zi M' X 3 = nI (mBl ref rs) ∧ ∀ j, j < mBl ref rs → zi M' (X + 2) j = nI (mBlk ref rs j))) := by
  refine zCt.of [(0, .ref X), (1, .ref rr), (2, .ref it), (3, .int (nI fr)), (4, .int (nI rs.length))] (by decide) (Nat.le_of_ble_eq_true rfl) rfl (fun f hfl hx hQ => ?_)
  have hs0 := hs
  obtain ⟨hg0, hg1, hg2, hp0, hp2, hX0⟩ := hs
  have hp0 : zr M X 0 = X + 1 := hp0
  have hp2 : zr M X 2 = X + 2 := hp2
  have hl160 := hrf.2.2.1
  have hr4 := hrf.2.2.2
  have hoks : ∀ r ∈ rs, mOk ref len r := fun r hr => by
    obtain ⟨i, hi, rfl⟩ := mAt_mem hr
    exact (hrd i hi).2.2.2.2
  refine g_aload_n (q := 1) hx d_En_writeBlock_0 rfl rfl ?_
  refine g_cv (q := 4) (zrunU hx d_En_writeBlock_1 rfl lk_En_23 (by assumption) rfl rfl (Nat.le_of_ble_eq_true rfl) (by decide) (by omega) (by omega) (c_Co_renewE _ E Γ n _ X hs0)) rfl (fun M1 p1 => ?_)
  obtain ⟨r1, r2, r3, r4, r5, r6⟩ := p1
  refine g_aload_n (q := 5) hx d_En_writeBlock_4 rfl rfl ?_
  refine g_lconst (q := 6) (v := lN 0) hx d_En_writeBlock_5 rfl (by decide) ?_
  refine g_putl (q := 9) hx d_En_writeBlock_6 rfl fl_En_19 nf_2_4 (by assumption) ?_
  refine g_aload_n (q := 10) hx d_En_writeBlock_9 rfl rfl ?_
  refine g_iconst (q := 11) (v := nI 3) hx d_En_writeBlock_10 rfl (by decide) ?_
  refine g_puti (q := 14) hx d_En_writeBlock_11 rfl fl_En_15 nf_2_3 (by assumption) ?_
  obtain ⟨Ma, hMa⟩ : ∃ Ma, Ma = zsi (zsl M1 X 4 (lN 0)) X 3 (nI 3) := ⟨_, rfl⟩
  rw [← hMa]
  have hza : zOm (sEn X) M Ma := by rw [hMa]; exact (r1.sl (Or.inl rfl)).si (Or.inl rfl)
  have a1 : zl Ma X 4 = lN 0 := by rw [hMa, zl_i, zl_s]
  have a2 : zl Ma X 1 = lN 4294967295 := by rw [hMa, zl_i, zl_k (by omega)]; exact r2
  have a3 : ∀ p, p < 58 → zi Ma (X + 1) p = nI 1024 := fun p hp => by rw [hMa, zi_a (by omega), zi_l]; exact r3 p hp
  have a4 : zi Ma X 3 = nI 3 := by rw [hMa, zi_s]
  have hra := (hrd.kept hza) 0 (by omega)
  have e0 : zr Ma it fr = ad 0 := hra.1
  have hp2a : zr Ma X 2 = X + 2 := by
    show Ma.2.2 X 2 = _
    rw [hza.r]; exact hp2
  have hf0 := mAt_0 hc1
  have hle0 := mPs_fit hra.2.2.2.2
  clear hMa
  refine g_aload_n (q := 15) hx d_En_writeBlock_14 rfl rfl ?_
  refine g_iload_n (q := 16) hx d_En_writeBlock_15 rfl rfl ?_
  refine g_aald (q := 17) hx d_En_writeBlock_16 rfl hgi rfl (by omega) hN e0 (by have := hra.2.1.out; omega) ?_
  refine g_geti (q := 20) hx d_En_writeBlock_17 rfl fl_En_26 hra.2.1.1.1 hra.2.2.1.1 ?_
  refine g_istore (q := 22) (lc' := [(5, _), (0, _), (1, _), (2, _), (3, _), (4, _)]) hx d_En_writeBlock_20 rfl (by decide) rfl ?_
  refine g_aload_n (q := 23) hx d_En_writeBlock_22 rfl rfl ?_
  refine g_geta (q := 26) hx d_En_writeBlock_23 rfl fl_En_9 (by assumption) hp2a (by omega) ?_
  refine g_iconst (q := 27) (v := nI 0) hx d_En_writeBlock_26 rfl (by decide) ?_
  refine g_iload (q := 29) hx d_En_writeBlock_27 rfl rfl ?_
  refine g_iast (q := 30) hx d_En_writeBlock_29 rfl (by assumption) rfl (by omega) (by decide) ?_
  refine g_aload_n (q := 31) hx d_En_writeBlock_30 rfl rfl ?_
  refine g_geta (q := 34) hx d_En_writeBlock_31 rfl fl_En_9 (by assumption) hp2a (by omega) ?_
  refine g_iconst (q := 35) (v := nI 1) hx d_En_writeBlock_34 rfl (by decide) ?_
  refine g_iload (q := 37) hx d_En_writeBlock_35 rfl rfl ?_
  refine g_iast (q := 38) hx d_En_writeBlock_37 rfl (by assumption) rfl (by omega) (by decide) ?_
  obtain ⟨Mb, hMb⟩ : ∃ Mb, Mb = zsi (zsi Ma (X + 2) 0 (nI rs.length)) (X + 2) 1 (nI (mAt rs 0).1) := ⟨_, rfl⟩
  rw [← hMb]
  have hzb : zOm (sEn X) M Mb := by rw [hMb]; exact (hza.si (Or.inr (Or.inr rfl))).si (Or.inr (Or.inr rfl))
  have hb0 : zi Mb (X + 2) 0 = nI rs.length := by rw [hMb, zi_k (by omega), zi_s]
  have hb1 : zi Mb (X + 2) 1 = nI (mFp rs) := by rw [hMb, zi_s, hf0]
  have hIb : eI Mb X Mb (mE0 (fun _ => 0), mBits ref (mFp rs) rs) := by
    have hE := mE0_ok (fun _ => 0)
    have hG := mBits_ok hr4 hl160 rs (mFp rs) hoks
    refine ⟨zOm.rf, ⟨?_, ?_, ?_, ?_, ?_⟩, fun j hj => rfl, hE.1, hG.1, 0, hE.2, by dsimp only; omega⟩
    · rw [hMb]; exact a1
    · rw [hMb]; exact a2
    · intro p hp; rw [hMb, zi_a (by omega), zi_a (by omega)]; exact a3 p hp
    · rw [hMb, zi_a (by omega), zi_a (by omega)]; exact a4
    · intro j hj; exact absurd hj (Nat.not_lt_zero _)
  have hrb := hrd.kept hzb
  have hsb : pEs Γ Mb.2.2 X := by rw [hzb.r]; exact hs0
  have hrsb : pRs Γ Mb.2.2 rr := by rw [hzb.r]; exact hrs
  have hrfb : pRf Mb rr len ref := hrf.kept (hzb.2 _ ho.1).1 (hzb.2 _ ho.2.1).1
  clear hMb
  rw [hf0]
  have loop : ∀ (i : Nat) (M1 : zM), ∀ (s1 : mEn) (b : Nat), i ≤ rs.length → eI Mb X M1 (s1, mBits ref b (rs.drop i)) → mPuts s1 (mBits ref b (rs.drop i)) = mSt ref rs → (i < rs.length → b ≤ (mAt rs i).1) → b ≤ 160 → zGo f E Γ n (0, 0) M1 41 [(6, .int (nI (fr + i))), (5, .int (nI b)), (0, .ref X), (1, .ref rr), (2, .ref it), (3, .int (nI fr)), (4, .int (nI rs.length))] [] := by
    refine z_lp (fun i => rs.length - i) _ ?_
    intro i M1 ih s1 b hi hI1 hF hb hb160
    refine g_iload (q := 43) hx d_En_writeBlock_41 rfl rfl ?_
    refine g_iload_n (q := 44) hx d_En_writeBlock_43 rfl rfl ?_
    refine g_iload (q := 46) hx d_En_writeBlock_44 rfl rfl ?_
    refine g_iadd (q := 47) hx d_En_writeBlock_46 rfl (nI_add _ _) ?_
    refine g_icmp_ge (q := 50) (t := 84) hx d_En_writeBlock_47 rfl rfl (nI_leI (by omega) (by omega)) (fun h47 => ?_) (fun h47 => ?_)
    · have hde : rs.drop i = [] := List.drop_eq_nil_of_le (by omega)
      rw [hde] at hI1 hF
      simp only [mBits] at hI1 hF
      have hF : s1 = mSt ref rs := hF
      subst hF
      obtain ⟨i1, ⟨j1, j2, j3, j4⟩, i3, i4⟩ := hI1
      dsimp only at j1 j2 j3 j4
      have i4 : mCan (mSt ref rs) [] := i4
      have hby := i4.bytes
      have h6 := i4.1.2.2.2.2.1
      have hsl := mStrip_le (mRow ref rs) ((mSt ref rs).2.2.2.1 + 4)
      refine g_aload_n (q := 85) hx d_En_writeBlock_84 rfl rfl ?_
      refine g_cv (q := 88) (zrunV hx d_En_writeBlock_85 lk_En_35 rfl rfl (by assumption) rfl rfl (Nat.le_of_ble_eq_true rfl) (by decide) (by omega) (by omega) (c_En_closeRow _ E Γ n _ X (mSt ref rs).1 (mSt ref rs).2.1 (mSt ref rs).2.2.2.1 (mSt ref rs).2.2.1 (mSt ref rs).2.2.2.2 (by rw [i1.r]; exact hsb) j1 i4.1.1 j4 (by omega) h6)) rfl (fun M85 p85 => ?_)
      obtain ⟨c1, c2, c3, c4, c5⟩ := p85
      have c2 : zi M85 X 3 = nI (mRl ref rs + 3) := c2
      have c3 : ∀ j, j < mRl ref rs → zi M85 (X + 2) (j + 3) = nI (mRow ref rs j) := c3
      have c4 : zi M85 (X + 2) 2 = nI (mRl ref rs) := c4
      have hrl : mRl ref rs ≤ (mSt ref rs).2.2.2.1 + 4 := hsl
      have hrow : ∀ j, j < mRl ref rs → mRow ref rs j < 256 := fun j hj => by
        unfold mRow mSeal mUp
        have hl32 := i4.1.1
        split
        · omega
        · split
          · omega
          · split
            · omega
            · split
              · omega
              · exact h6 j (by omega)
      refine g_aload_n (q := 89) hx d_En_writeBlock_88 rfl rfl ?_
      refine g_cv (q := 92) (zrunV hx d_En_writeBlock_89 lk_En_38 rfl rfl (by assumption) rfl rfl (Nat.le_of_ble_eq_true rfl) (by decide) (by omega) (by omega) (c_En_addCheck _ E Γ n _ X (mRl ref rs + 3) (mBlk0 ref rs) (by rw [c1.r, i1.r]; exact hsb) c2 (by omega) (fun j hj => by
          unfold mBlk0
          by_cases q0 : j = 0
          · subst q0; rw [if_pos rfl, c5 0 (by omega), i3 0 (by omega)]; exact hb0
          · rw [if_neg q0]
            by_cases q1 : j = 1
            · subst q1; rw [if_pos rfl, c5 1 (by omega), i3 1 (by omega)]; exact hb1
            · rw [if_neg q1]
              by_cases q2 : j = 2
              · subst q2; rw [if_pos rfl]; exact c4
              · rw [if_neg q2]
                obtain ⟨z, rfl⟩ : ∃ z, j = z + 3 := ⟨j - 3, by omega⟩
                rw [Nat.add_sub_cancel]
                exact c3 z (by omega)) (fun j hj => by
          unfold mBlk0
          split
          · omega
          · split
            · omega
            · split
              · omega
              · exact hrow (j - 3) (by omega)))) rfl (fun M89 p89 => ?_)
      obtain ⟨d1, d2, d3⟩ := p89
      exact g_vret hx d_En_writeBlock_92 rfl hQ ⟨Nat.le_refl _, Nat.le_refl _⟩ ⟨rfl, rfl, rfl, ((hzb.tr i1).tr (c1.mono (fun a q => by unfold sEn; omega))).tr (d1.mono (fun a q => by unfold sEn; omega)), d2, fun j hj => d3 j hj⟩
    · have hri := (hrb.kept hI1.1) i (by omega)
      have hdr := mAt_drop (rs := rs) (i := i) (by omega)
      rw [hdr] at hI1 hF
      simp only [mBits] at hI1
      have hF2 := hF
      simp only [mBits, mPuts_app] at hF2
      have hbi := hb (by omega)
      have hle := mPs_fit hri.2.2.2.2
      refine g_aload_n (q := 51) hx d_En_writeBlock_50 rfl rfl ?_
      refine g_aload_n (q := 52) hx d_En_writeBlock_51 rfl rfl ?_
      refine g_aload_n (q := 53) hx d_En_writeBlock_52 rfl rfl ?_
      refine g_iload (q := 55) hx d_En_writeBlock_53 rfl rfl ?_
      refine g_aald (q := 56) hx d_En_writeBlock_55 rfl hgi rfl (by omega) hN hri.1 (by have := hri.2.1.out; omega) ?_
      refine g_aload_n (q := 57) hx d_En_writeBlock_56 rfl rfl ?_
      refine g_iload (q := 59) hx d_En_writeBlock_57 rfl rfl ?_
      refine g_aald (q := 60) hx d_En_writeBlock_59 rfl hgi rfl (by omega) hN hri.1 (by have := hri.2.1.out; omega) ?_
      refine g_geti (q := 63) hx d_En_writeBlock_60 rfl fl_En_26 hri.2.1.1.1 hri.2.2.1.1 ?_
      refine g_iload (q := 65) hx d_En_writeBlock_63 rfl rfl ?_
      refine g_isub (q := 66) hx d_En_writeBlock_65 rfl (pk_sub (by omega)) ?_
      refine g_cv (q := 69) (zrunV hx d_En_writeBlock_66 lk_En_31 rfl rfl (by assumption) rfl rfl (Nat.le_of_ble_eq_true rfl) (by decide) (by omega) (by omega) (c_En_writeRead _ E Γ n _ Mb X rr len (ad i) b ref (mAt rs i) s1 _ hsb hI1 hrsb hrfb ho (hrb i (by omega)).2.1 (hrb i (by omega)).2.2.1 hri.2.2.2.1 hri.2.2.2.2)) rfl (fun M66 p66 => ?_)
      have hrj := (hrb.kept p66.1) i (by omega)
      refine g_aload_n (q := 70) hx d_En_writeBlock_69 rfl rfl ?_
      refine g_iload (q := 72) hx d_En_writeBlock_70 rfl rfl ?_
      refine g_aald (q := 73) hx d_En_writeBlock_72 rfl hgi rfl (by omega) hN hrj.1 (by have := hri.2.1.out; omega) ?_
      refine g_geti (q := 76) hx d_En_writeBlock_73 rfl fl_En_26 hri.2.1.1.1 hrj.2.2.1.1 ?_
      refine g_istore (q := 78) (lc' := [(5, _), (6, _), (0, _), (1, _), (2, _), (3, _), (4, _)]) hx d_En_writeBlock_76 rfl (by decide) rfl ?_
      refine g_iinc (q := 81) (lc' := [(6, _), (5, _), (0, _), (1, _), (2, _), (3, _), (4, _)]) hx d_En_writeBlock_78 rfl rfl (z_inc _) (by decide) rfl ?_
      refine g_goto (q := 41) hx d_En_writeBlock_81 rfl ?_
      exact ih (i + 1) M66 (by show rs.length - (i + 1) < rs.length - i; omega) _ _ (by omega) p66 hF2 (fun h => hsort i h) (by omega)
  refine g_iload_n (q := 39) hx d_En_writeBlock_38 rfl rfl ?_
  refine g_istore (q := 41) (lc' := [(6, _), (5, _), (0, _), (1, _), (2, _), (3, _), (4, _)]) hx d_En_writeBlock_39 rfl (by decide) rfl ?_
  exact loop 0 Mb _ (mFp rs) (Nat.zero_le _) hIb rfl (fun _ => by omega) (by omega)
