/-- what readsSoundly may change -/
abbrev sSd (sp En De : Nat) : Nat → Prop := fun a => (sp ≤ a ∧ a < sp + 14) ∨ (En ≤ a ∧ a ≤ En + 2) ∨ (De ≤ a ∧ a ≤ De + 2)
/-- the reads that stand in a row of three -/
def pThree (M : zM) (sp : Nat) (ref : Nat → Nat) (len : Nat) (rs : List mRd) : Prop := ∀ i, i < rs.length → pRb M (sp + 2 + 4 * i) ref len (mAt rs i) ∧ 0 < mBc (mAt rs i).2
theorem mBlk_lt {ref : Nat → Nat} {len : Nat} {rs : List mRd} (hr : ∀ j, ref j < 4) (hl : len ≤ 160) (hok : ∀ r ∈ rs, mOk ref len r) (h3 : rs.length ≤ 3) {j : Nat} (hj : j < mBl ref rs) : mBlk ref rs j < 256 := by
  have hst := mSt_ok hr hl hok
  have hrl : mRl ref rs ≤ (mSt ref rs).2.2.2.1 + 4 := mStrip_le (mRow ref rs) ((mSt ref rs).2.2.2.1 + 4)
  have hck := mChk_lt (mBlk0 ref rs) (mRl ref rs + 3)
  have h6 := hst.1.2.2.2.2.1
  have hl32 := hst.1.1
  have hfp : mFp rs ≤ 160 := by
    cases rs with
    | nil => exact Nat.zero_le _
    | cons r t => exact Nat.le_trans (hok r List.mem_cons_self).1 hl
  have hj5 : j < mRl ref rs + 5 := hj
  unfold mBlk
  split
  · omega
  · split
    · omega
    · unfold mBlk0
      split
      · omega
      · split
        · omega
        · split
          · omega
          · unfold mRow mSeal mUp
            split
            · omega
            · split
              · omega
              · split
                · omega
                · split
                  · omega
                  · exact h6 (j - 3) (by omega)
set_option maxHeartbeats 4000000 in
set_option maxRecDepth 100000 in
/-- readsSoundly(begin) -/
theorem c_Sr_readsSoundly (l : Launch) (E : zE) (Γ : zG) (n : Nat) (M : zM) (x rr sp A En De len size b : Nat) (ref arch : Nat → Nat) (h0 : Γ x = some (0, 6)) (r20 : zr M x 0 = rr) (r25 : zr M x 5 = sp) (r26 : zr M x 6 = A) (r27 : zr M x 7 = En) (r28 : zr M x 8 = De) (hlay : rr + 1 < sp ∧ sp + 14 ≤ A ∧ A + 1 < En ∧ En + 2 < De)
    (hrs : pRs Γ M.2.2 rr) (hrf : pRf M rr len ref) (hrow : pRrS Γ M.2.2 sp 3) (has_ : pAs Γ M.2.2 A) (har : pAr M A size arch) (hes : pEs Γ M.2.2 En) (hds : pDs Γ M.2.2 De) (hb : b < 100000) :
    zCt l E Y_Sr_readsSoundly 6 (0, 0) [.ref x, .int (nI b)] Γ n M (zPi Γ n (fun v M' => zOm (sSd sp En De) M M' ∧ ((v = nI 1 ∧ ∃ rs, mTake ref len arch size b = some rs ∧ zi M' sp 1 = nI rs.length ∧ pThree M' sp ref len rs) ∨ v = nI 0 ∧ mTake ref len arch size b = none))) := by
  refine zCt.of [(0, .ref x), (1, .int (nI b))] (by decide) (Nat.le_of_ble_eq_true rfl) rfl (fun f hfl hx hQ => ?_)
  obtain ⟨hf0, hf1, hf2', hfi⟩ := hrow
  have hf2 : zr M sp 0 = sp + 1 := hf2'
  have hA2 : zr M A 0 = A + 1 := has_.2.2.1
  have hA0 := has_.2.2.2
  have hgA := has_.1
  have hgE := hes.1
  have hgD := hds.1
  have hr160 := hrf.2.2.1
  have hsz := har.2.2.1
  have hrr0 := hrs.2.2.2
  obtain ⟨l1, l2, l3, l4⟩ := hlay
  clear hf2'
  refine g_aload_n (q := 1) hx d_Sr_readsSoundly_0 rfl rfl ?_
  refine g_geto (q := 4) hx d_Sr_readsSoundly_1 rfl fl_Sr_44 h0 r26 (by first | exact Nat.succ_ne_zero _ | omega) ?_
  refine g_iload_n (q := 5) hx d_Sr_readsSoundly_4 rfl rfl ?_
  refine g_ci (q := 8) (zrunV hx d_Sr_readsSoundly_5 lk_Sr_203 rfl rfl (by assumption) rfl rfl (Nat.le_of_ble_eq_true rfl) (by decide) (by omega) (by omega) (c_Ar_hasWholeBlock _ E Γ n _ A size arch b has_ har hb)) rfl (fun r5 M5 p5 => ?_)
  obtain ⟨rfl, p5⟩ := p5
  rcases p5 with ⟨rfl, hz⟩ | ⟨rfl, hz⟩
  · refine g_if_ne (q := 11) (t := 13) hx d_Sr_readsSoundly_8 rfl rfl (zb_ne0 (by omega)) (fun h8 => ?_) (fun h8 => ?_)
    · have hz2 := mRlen_of.mp hz
      have hrl : mRlen arch size b = arch (b + 2) := by unfold mRlen; rw [if_pos (by omega)]
      obtain ⟨rl, hrl9⟩ : ∃ rl, rl = arch (b + 2) := ⟨_, rfl⟩
      obtain ⟨c, hc9⟩ : ∃ c, c = arch b := ⟨_, rfl⟩
      obtain ⟨by_, hby⟩ : ∃ by_, by_ = mBy arch (b + 3) rl := ⟨_, rfl⟩
      have hT : mTake ref len arch size b = if c < 1 ∨ 3 < c then none else match mTs by_ ref len c (arch (b + 1)) (mD0 by_) with
          | none => none
          | some rs => if mBl ref rs = 5 + rl ∧ mSame (mBlk ref rs) (fun j => arch (b + j)) (5 + rl) = true then some rs else none := by
        unfold mTake
        rw [if_neg hz2.1, hby, hrl9, hc9]
        by_cases q : arch b < 1 ∨ 3 < arch b
        · rw [if_pos (by omega), if_pos q]
        · rw [if_neg (by omega), if_neg q]
          generalize mTs (mBy arch (b + 3) (arch (b + 2))) ref len (arch b) (arch (b + 1)) (mD0 (mBy arch (b + 3) (arch (b + 2)))) = o
          cases o <;> rfl
      rw [← hrl9] at hrl hz2
      have hc256 := har.2.2.2 b
      have hp256 := har.2.2.2 (b + 1)
      rw [← hc9] at hc256
      have hb0 : zi M5 (A + 1) b = nI c := by rw [har.2.1 b (by omega), hc9]
      refine g_aload_n (q := 14) hx d_Sr_readsSoundly_13 rfl rfl ?_
      refine g_geto (q := 17) hx d_Sr_readsSoundly_14 rfl fl_Sr_44 h0 r26 (by first | exact Nat.succ_ne_zero _ | omega) ?_
      refine g_geta (q := 20) hx d_Sr_readsSoundly_17 rfl fl_Sr_177 has_.1 hA2 (by first | exact Nat.succ_ne_zero _ | omega) ?_
      refine g_iload_n (q := 21) hx d_Sr_readsSoundly_20 rfl rfl ?_
      refine g_iald (q := 22) hx d_Sr_readsSoundly_21 rfl has_.2.1 rfl (by omega) (by decide) hb0 ?_
      refine g_istore_n (q := 23) (lc' := [(2, _), (0, _), (1, _)]) hx d_Sr_readsSoundly_22 rfl (by decide) rfl ?_
      refine g_iload_n (q := 24) hx d_Sr_readsSoundly_23 rfl rfl ?_
      refine g_iconst (q := 25) (v := nI 1) hx d_Sr_readsSoundly_24 rfl (by decide) ?_
      refine g_icmp_lt (q := 28) (t := 48) hx d_Sr_readsSoundly_25 rfl rfl (nI_ltI (by omega) (by omega)) (fun h25 => ?_) (fun h25 => ?_)
      · refine g_iconst (q := 49) (v := nI 0) hx d_Sr_readsSoundly_48 rfl (by decide) ?_
        exact g_zret hx d_Sr_readsSoundly_49 rfl (by decide) hQ ⟨Nat.le_refl _, Nat.le_refl _⟩ ⟨_, rfl, rfl, rfl, by first | exact zOm.rf | exact zo1, Or.inr ⟨rfl, by first | (rw [hT, if_pos (by omega)]) | (rw [hT, if_neg (by omega), show c = (c - 1) + 1 by omega, mTs_ff hrf.2.2.1 hv])⟩⟩
      · refine g_iload_n (q := 29) hx d_Sr_readsSoundly_28 rfl rfl ?_
        refine g_iconst (q := 30) (v := nI 3) hx d_Sr_readsSoundly_29 rfl (by decide) ?_
        refine g_icmp_gt (q := 33) (t := 48) hx d_Sr_readsSoundly_30 rfl rfl (nI_ltI (by omega) (by omega)) (fun h30 => ?_) (fun h30 => ?_)
        · refine g_iconst (q := 49) (v := nI 0) hx d_Sr_readsSoundly_48 rfl (by decide) ?_
          exact g_zret hx d_Sr_readsSoundly_49 rfl (by decide) hQ ⟨Nat.le_refl _, Nat.le_refl _⟩ ⟨_, rfl, rfl, rfl, by first | exact zOm.rf | exact zo1, Or.inr ⟨rfl, by first | (rw [hT, if_pos (by omega)]) | (rw [hT, if_neg (by omega), show c = (c - 1) + 1 by omega, mTs_ff hrf.2.2.1 hv])⟩⟩
        · refine g_aload_n (q := 34) hx d_Sr_readsSoundly_33 rfl rfl ?_
          refine g_geto (q := 37) hx d_Sr_readsSoundly_34 rfl fl_Sr_58 h0 r28 (by first | exact Nat.succ_ne_zero _ | omega) ?_
          refine g_aload_n (q := 38) hx d_Sr_readsSoundly_37 rfl rfl ?_
          refine g_geto (q := 41) hx d_Sr_readsSoundly_38 rfl fl_Sr_44 h0 r26 (by first | exact Nat.succ_ne_zero _ | omega) ?_
          refine g_iload_n (q := 42) hx d_Sr_readsSoundly_41 rfl rfl ?_
          refine g_ci (q := 45) (zrunV hx d_Sr_readsSoundly_42 lk_Sr_206 rfl rfl (by assumption) rfl rfl (Nat.le_of_ble_eq_true rfl) (by decide) (by omega) (by omega) (c_De_open _ E Γ n _ De A size b rl arch by_ hds has_ har (by omega) (by omega) hrl hby)) rfl (fun r42 Mo p42 => ?_)
          obtain ⟨zo, hpo, p42⟩ := p42
          have zo1 : zOm (sSd sp En De) M5 Mo := zo.mono (fun a q => by unfold sSd; omega)
          rcases p42 with ⟨rfl, hv⟩ | ⟨rfl, hv⟩
          · refine g_if_ne (q := 48) (t := 50) hx d_Sr_readsSoundly_45 rfl rfl (zb_ne0 (by omega)) (fun h45 => ?_) (fun h45 => ?_)
            · rw [if_neg (by omega)] at hT
              have k6o : zr Mo x 6 = A := by
                show Mo.2.2 x 6 = A
                rw [zo.r]; exact r26
              have kAo : zr Mo A 0 = A + 1 := by
                show Mo.2.2 A 0 = A + 1
                rw [zo.r]; exact hA2
              have hb1 : zi Mo (A + 1) (b + 1) = nI (arch (b + 1)) := by
                rw [zo.i (by omega)]; exact har.2.1 _ (by omega)
              have loop : ∀ (i : Nat) (M1 : zM), ∀ (dn : List mRd) (pos : Nat) (s1 : mDe) (fu : Nat), i ≤ c → dn.length = i → zOm (sSd sp En De) M5 M1 → pDf M1 De rl by_ s1 fu → 304 * (c - i) ≤ fu → pos ≤ 255 → pThree M1 sp ref len dn → (∀ q, q + 1 < dn.length → (mAt dn q).1 ≤ (mAt dn (q + 1)).1) → (0 < dn.length → (mAt dn (dn.length - 1)).1 ≤ pos) → (match mTs by_ ref len (c - i) pos s1 with
                  | none => none
                  | some l => some (dn ++ l)) = mTs by_ ref len c (arch (b + 1)) (mD0 by_) → zGo f E Γ n (0, 0) M1 65 [(4, .int (nI i)), (3, .int (nI pos)), (2, .int (nI c)), (0, .ref x), (1, .int (nI b))] [] := by
                refine z_lp (fun i => c - i) _ ?_
                intro i M1 ih dn pos s1 fu hi j3 j1 j2 hfu hpos j4 j5 j6 j7
                have k5 : zr M1 x 5 = sp := by
                  show M1.2.2 x 5 = sp
                  rw [j1.r]; exact r25
                have k6 : zr M1 sp 0 = sp + 1 := by
                  show M1.2.2 sp 0 = sp + 1
                  rw [j1.r]; exact hf2
                have k8 : zr M1 x 8 = De := by
                  show M1.2.2 x 8 = De
                  rw [j1.r]; exact r28
                have k0 : zr M1 x 0 = rr := by
                  show M1.2.2 x 0 = rr
                  rw [j1.r]; exact r20
                refine g_iload (q := 67) hx d_Sr_readsSoundly_65 rfl rfl ?_
                refine g_iload_n (q := 68) hx d_Sr_readsSoundly_67 rfl rfl ?_
                refine g_icmp_ge (q := 71) (t := 114) hx d_Sr_readsSoundly_68 rfl rfl (nI_leI (by omega) (by omega)) (fun h68 => ?_) (fun h68 => ?_)
                · obtain rfl : i = c := (by omega)
                  rw [Nat.sub_self] at j7
                  simp only [mTs, List.append_nil] at j7
                  rw [← j7] at hT
                  dsimp only at hT
                  subst j3
                  refine g_aload_n (q := 115) hx d_Sr_readsSoundly_114 rfl rfl ?_
                  refine g_geto (q := 118) hx d_Sr_readsSoundly_115 rfl fl_Sr_38 h0 k5 (by first | exact Nat.succ_ne_zero _ | omega) ?_
                  refine g_iload_n (q := 119) hx d_Sr_readsSoundly_118 rfl rfl ?_
                  refine g_puti (q := 122) hx d_Sr_readsSoundly_119 rfl fl_Sr_72 nf_4_1 hf0 ?_
                  obtain ⟨M3, hM3⟩ : ∃ M3, M3 = zsi M1 sp 1 (nI dn.length) := ⟨_, rfl⟩
                  rw [← hM3]
                  have z3 : zOm (sSd sp En De) M5 M3 := by rw [hM3]; exact j1.si (by unfold sSd; omega)
                  have c3 : zi M3 sp 1 = nI dn.length := by rw [hM3, zi_s]
                  have w3 : ∀ a, a ≠ sp → M3.1 a = M1.1 a := fun a ha => by rw [hM3]; exact zi_b ha
                  have r3 : M3.2.2 = M5.2.2 := z3.r
                  clear hM3
                  have k03 : zr M3 x 0 = rr := by
                    show M3.2.2 x 0 = rr
                    rw [r3]; exact r20
                  have k53 : zr M3 x 5 = sp := by
                    show M3.2.2 x 5 = sp
                    rw [r3]; exact r25
                  have k63 : zr M3 sp 0 = sp + 1 := by
                    show M3.2.2 sp 0 = sp + 1
                    rw [r3]; exact hf2
                  have k73 : zr M3 x 7 = En := by
                    show M3.2.2 x 7 = En
                    rw [r3]; exact r27
                  have hp3 : ∀ q, q < dn.length → pRb M3 (sp + 2 + 4 * q) ref len (mAt dn q) ∧ 0 < mBc (mAt dn q).2 := fun q hq => ⟨(j4 q hq).1.kept (fun a h1 h2 => w3 a (by omega)), (j4 q hq).2⟩
                  refine g_aload_n (q := 123) hx d_Sr_readsSoundly_122 rfl rfl ?_
                  refine g_geto (q := 126) hx d_Sr_readsSoundly_123 rfl fl_Sr_51 h0 k73 (by first | exact Nat.succ_ne_zero _ | omega) ?_
                  refine g_aload_n (q := 127) hx d_Sr_readsSoundly_126 rfl rfl ?_
                  refine g_geto (q := 130) hx d_Sr_readsSoundly_127 rfl fl_Sr_12 h0 k03 (by first | exact Nat.succ_ne_zero _ | omega) ?_
                  refine g_aload_n (q := 131) hx d_Sr_readsSoundly_130 rfl rfl ?_
                  refine g_geto (q := 134) hx d_Sr_readsSoundly_131 rfl fl_Sr_38 h0 k53 (by first | exact Nat.succ_ne_zero _ | omega) ?_
                  refine g_geta (q := 137) hx d_Sr_readsSoundly_134 rfl fl_Sr_62 hf0 k63 (by first | exact Nat.succ_ne_zero _ | omega) ?_
                  refine g_iconst (q := 138) (v := nI 0) hx d_Sr_readsSoundly_137 rfl (by decide) ?_
                  refine g_iload_n (q := 139) hx d_Sr_readsSoundly_138 rfl rfl ?_
                  refine g_cv (q := 142) (zrunV hx d_Sr_readsSoundly_139 lk_Sr_157 rfl rfl (by assumption) rfl rfl (Nat.le_of_ble_eq_true rfl) (by decide) (by omega) (by omega) (c_En_writeBlock _ E Γ n _ En rr len (sp + 1) 3 0 ref dn (fun q => sp + 2 + 4 * q) (by rw [r3]; exact hes) (by rw [r3]; exact hrs) (hrf.kept (z3.2 _ (by unfold sSd; omega)).1 (z3.2 _ (by unfold sSd; omega)).1) (by unfold sOff sEn; omega) hf1 (by decide) (by omega) (by omega) (by omega) (fun q hq => ⟨by
                      show M3.2.2 (sp + 1) (0 + q) = _
                      rw [r3, Nat.zero_add]; exact (hfi q (by omega)).1, by rw [r3]; exact (hfi q (by omega)).2, (hp3 q hq).1.1, by show sOff (sEn En) (sp + 2 + 4 * q); unfold sOff sEn; omega, (hp3 q hq).1.2.2⟩) j5)) rfl (fun M4 p139 => ?_)
                  obtain ⟨z4, u4, v4⟩ := p139
                  have z4' : zOm (sSd sp En De) M5 M4 := z3.tr (z4.mono (fun a q => by unfold sEn at q; unfold sSd; omega))
                  have r4 : M4.2.2 = M5.2.2 := z4'.r
                  have k64 : zr M4 x 6 = A := by
                    show M4.2.2 x 6 = A
                    rw [r4]; exact r26
                  have k74 : zr M4 x 7 = En := by
                    show M4.2.2 x 7 = En
                    rw [r4]; exact r27
                  have k84 : zr M4 En 2 = En + 2 := by
                    show M4.2.2 En 2 = En + 2
                    rw [r4]; exact hes.2.2.2.2.1
                  have har4 : pAr M4 A size arch := har.kept (z4'.2 _ (by unfold sSd; omega)).1 (z4'.2 _ (by unfold sSd; omega)).1
                  have hokd : ∀ r ∈ dn, mOk ref len r := fun r hr => by
                    obtain ⟨q, hq, rfl⟩ := mAt_mem hr
                    exact (hp3 q hq).1.2.2
                  have hbl : mBl ref dn ≤ 260 := by
                    have hst := mSt_ok (rs := dn) hrf.2.2.2 hrf.2.2.1 hokd
                    have hsl := mStrip_le (mRow ref dn) ((mSt ref dn).2.2.2.1 + 4)
                    show mRl ref dn + 5 ≤ 260
                    have : mRl ref dn ≤ (mSt ref dn).2.2.2.1 + 4 := hsl
                    omega
                  refine g_aload_n (q := 143) hx d_Sr_readsSoundly_142 rfl rfl ?_
                  refine g_geto (q := 146) hx d_Sr_readsSoundly_143 rfl fl_Sr_44 h0 k64 (by first | exact Nat.succ_ne_zero _ | omega) ?_
                  refine g_iload_n (q := 147) hx d_Sr_readsSoundly_146 rfl rfl ?_
                  refine g_aload_n (q := 148) hx d_Sr_readsSoundly_147 rfl rfl ?_
                  refine g_geto (q := 151) hx d_Sr_readsSoundly_148 rfl fl_Sr_51 h0 k74 (by first | exact Nat.succ_ne_zero _ | omega) ?_
                  refine g_geta (q := 154) hx d_Sr_readsSoundly_151 rfl fl_Sr_161 hes.1 k84 (by first | exact Nat.succ_ne_zero _ | omega) ?_
                  refine g_aload_n (q := 155) hx d_Sr_readsSoundly_154 rfl rfl ?_
                  refine g_geto (q := 158) hx d_Sr_readsSoundly_155 rfl fl_Sr_51 h0 k74 (by first | exact Nat.succ_ne_zero _ | omega) ?_
                  refine g_geti (q := 161) hx d_Sr_readsSoundly_158 rfl fl_Sr_164 hes.1 u4 ?_
                  refine g_ci (q := 164) (zrunV hx d_Sr_readsSoundly_161 lk_Sr_214 rfl rfl (by assumption) rfl rfl (Nat.le_of_ble_eq_true rfl) (by decide) (by omega) (by omega) (c_Ar_holds _ E Γ n _ A size (En + 2) (mBl ref dn) 260 b arch (fun j => if j < mBl ref dn then mBlk ref dn j else 0) (by rw [r4]; exact has_) har4 hes.2.2.1 (by decide) hbl (by omega) (by rw [hrl]; omega) (fun j hj => by rw [if_pos hj]; exact v4 j hj) (fun j => by
                      split
                      · exact mBlk_lt hrf.2.2.2 hrf.2.2.1 hokd (by omega) (by assumption)
                      · omega))) rfl (fun r161 M5 p161 => ?_)
                  obtain ⟨rfl, p161⟩ := p161
                  rw [hrl] at p161
                  have hiff : (5 + rl = mBl ref dn ∧ ∀ j, j < mBl ref dn → arch (b + j) = if j < mBl ref dn then mBlk ref dn j else 0) ↔ (mBl ref dn = 5 + rl ∧ mSame (mBlk ref dn) (fun j => arch (b + j)) (5 + rl) = true) := by
                    rw [mSame_iff]
                    constructor
                    · rintro ⟨h1, h2⟩
                      exact ⟨h1.symm, fun j hj => by have := h2 j (by omega); rw [if_pos (by omega)] at this; exact this.symm⟩
                    · rintro ⟨h1, h2⟩
                      exact ⟨h1.symm, fun j hj => by rw [if_pos hj]; exact (h2 j (by omega)).symm⟩
                  rw [hiff] at p161
                  rcases p161 with ⟨rfl, hz⟩ | ⟨rfl, hz⟩
                  · exact g_zret hx d_Sr_readsSoundly_164 rfl (by decide) hQ ⟨Nat.le_refl _, Nat.le_refl _⟩ ⟨_, rfl, rfl, rfl, z4', Or.inl ⟨rfl, dn, by rw [hT, if_pos hz], (z4.i (by unfold sEn; omega) _).trans c3, fun q hq => ⟨(hp3 q hq).1.kept (fun a h1 h2 => (z4.2 a (by unfold sEn; omega)).1), (hp3 q hq).2⟩⟩⟩
                  · exact g_zret hx d_Sr_readsSoundly_164 rfl (by decide) hQ ⟨Nat.le_refl _, Nat.le_refl _⟩ ⟨_, rfl, rfl, rfl, z4', Or.inr ⟨rfl, by rw [hT, if_neg hz]⟩⟩
                · have hri := hfi i (by omega)
                  have k7 : zr M1 (sp + 1) i = sp + 2 + 4 * i := by
                    show M1.2.2 (sp + 1) i = _
                    rw [j1.r]; exact hri.1
                  have hsh1 : pSh Γ M1.2.2 (sp + 2 + 4 * i) := by rw [j1.r]; exact hri.2
                  have hrs1 : pRs Γ M1.2.2 rr := by rw [j1.r]; exact hrs
                  have hds1 : pDs Γ M1.2.2 De := by rw [j1.r]; exact hds
                  have hrf1 : pRf M1 rr len ref := hrf.kept (j1.2 _ (by unfold sSd; omega)).1 (j1.2 _ (by unfold sSd; omega)).1
                  refine g_aload_n (q := 72) hx d_Sr_readsSoundly_71 rfl rfl ?_
                  refine g_geto (q := 75) hx d_Sr_readsSoundly_72 rfl fl_Sr_38 h0 k5 (by first | exact Nat.succ_ne_zero _ | omega) ?_
                  refine g_geta (q := 78) hx d_Sr_readsSoundly_75 rfl fl_Sr_62 hf0 k6 (by first | exact Nat.succ_ne_zero _ | omega) ?_
                  refine g_iload (q := 80) hx d_Sr_readsSoundly_78 rfl rfl ?_
                  refine g_aald (q := 81) hx d_Sr_readsSoundly_80 rfl hf1 rfl (by omega) (by decide) k7 (by omega) ?_
                  refine g_astore (q := 83) (lc' := [(5, _), (4, _), (3, _), (2, _), (0, _), (1, _)]) hx d_Sr_readsSoundly_81 rfl (by decide) rfl ?_
                  refine g_aload_n (q := 84) hx d_Sr_readsSoundly_83 rfl rfl ?_
                  refine g_geto (q := 87) hx d_Sr_readsSoundly_84 rfl fl_Sr_58 h0 k8 (by first | exact Nat.succ_ne_zero _ | omega) ?_
                  refine g_aload_n (q := 88) hx d_Sr_readsSoundly_87 rfl rfl ?_
                  refine g_geto (q := 91) hx d_Sr_readsSoundly_88 rfl fl_Sr_12 h0 k0 (by first | exact Nat.succ_ne_zero _ | omega) ?_
                  refine g_aload (q := 93) hx d_Sr_readsSoundly_91 rfl rfl ?_
                  refine g_iload_n (q := 94) hx d_Sr_readsSoundly_93 rfl rfl ?_
                  refine g_ci (q := 97) (zrunV hx d_Sr_readsSoundly_94 lk_Sr_210 rfl rfl (by assumption) rfl rfl (Nat.le_of_ble_eq_true rfl) (by decide) (by omega) (by omega) (c_De_readRead _ E Γ n _ De rr len (sp + 2 + 4 * i) rl pos fu ref by_ s1 hds1 hrs1 hrf1 hsh1 (by unfold pApart; omega) j2 (by omega) (by omega))) rfl (fun r94 M2 p94 => ?_)
                  obtain ⟨z2, p94⟩ := p94
                  have j1' : zOm (sSd sp En De) M5 M2 := j1.tr (z2.mono (fun a q => by unfold sRd at q; unfold sSd; omega))
                  rcases p94 with ⟨rd, t, e1, rfl, hbc, hpr, fu', hfu', hpd'⟩ | ⟨rfl, e1⟩
                  · refine g_if_ne (q := 100) (t := 102) hx d_Sr_readsSoundly_97 rfl rfl (zb_ne0 (by omega)) (fun h97 => ?_) (fun h97 => ?_)
                    · refine g_aload (q := 104) hx d_Sr_readsSoundly_102 rfl rfl ?_
                      refine g_geti (q := 107) hx d_Sr_readsSoundly_104 rfl fl_Sr_130 hri.2.1.1 hpr.1.1 ?_
                      refine g_istore_n (q := 108) (lc' := [(3, _), (5, _), (4, _), (2, _), (0, _), (1, _)]) hx d_Sr_readsSoundly_107 rfl (by decide) rfl ?_
                      refine g_iinc (q := 111) (lc' := [(4, _), (3, _), (5, _), (2, _), (0, _), (1, _)]) hx d_Sr_readsSoundly_108 rfl rfl (z_inc _) (by decide) rfl ?_
                      refine g_goto (q := 65) hx d_Sr_readsSoundly_111 rfl ?_
                      have hge := mTr_ge e1
                      have hok := mPs_fit hpr.2.2
                      rw [show c - i = (c - (i + 1)) + 1 by omega, mTs_some e1] at j7
                      refine z_perm (lc' := [(4, .int (nI (i + 1))), (3, .int (nI rd.1)), (2, .int (nI c)), (0, .ref x), (1, .int (nI b))]) (fun q hq => by simp only [List.mem_cons, List.not_mem_nil, or_false] at hq ⊢; rcases hq with h | h | h | h | h <;> simp [h]) ?_
                      refine ih (i + 1) M2 (by show c - (i + 1) < c - i; omega) (dn ++ [rd]) rd.1 t fu' (by omega) (by simp [j3]) j1' hpd' (by omega) (by omega) (fun q hq => ?_) (fun q hq => ?_) (fun q => ?_) ?_
                      · by_cases e : q = i
                        · subst e
                          rw [← j3, mAt_last, j3]; exact ⟨hpr, hbc⟩
                        · have hq' : q < dn.length := by simp at hq; omega
                          rw [mAt_app hq']
                          have := j4 q hq'
                          exact ⟨this.1.kept (fun a h1 h2 => (z2.2 a (by unfold sRd; omega)).1), this.2⟩
                      · have hq' : q + 1 < i + 1 := by simp [j3] at hq; omega
                        by_cases e : q + 1 = i
                        · rw [mAt_app (by omega), show q + 1 = dn.length by omega, mAt_last]
                          have := j6 (by omega)
                          rw [show dn.length - 1 = q by omega] at this
                          omega
                        · rw [mAt_app (by omega), mAt_app (by omega)]; exact j5 q (by omega)
                      · rw [show (dn ++ [rd]).length - 1 = dn.length by simp, mAt_last]; exact Nat.le_refl _
                      · rw [← j7]
                        cases mTs by_ ref len (c - (i + 1)) rd.1 t with
                        | none => rfl
                        | some l => simp
                    · exact absurd h97 (by omega)
                  · refine g_if_ne (q := 100) (t := 102) hx d_Sr_readsSoundly_97 rfl rfl (zb_ne0 (by omega)) (fun h97 => ?_) (fun h97 => ?_)
                    · exact absurd h97 (by omega)
                    · refine g_iconst (q := 101) (v := nI 0) hx d_Sr_readsSoundly_100 rfl (by decide) ?_
                      exact g_zret hx d_Sr_readsSoundly_101 rfl (by decide) hQ ⟨Nat.le_refl _, Nat.le_refl _⟩ ⟨_, rfl, rfl, rfl, j1', Or.inr ⟨rfl, by rw [hT, ← j7, show c - i = (c - (i + 1)) + 1 by omega, mTs_none e1]⟩⟩
              refine g_aload_n (q := 51) hx d_Sr_readsSoundly_50 rfl rfl ?_
              refine g_geto (q := 54) hx d_Sr_readsSoundly_51 rfl fl_Sr_44 h0 k6o (by first | exact Nat.succ_ne_zero _ | omega) ?_
              refine g_geta (q := 57) hx d_Sr_readsSoundly_54 rfl fl_Sr_177 has_.1 kAo (by first | exact Nat.succ_ne_zero _ | omega) ?_
              refine g_iload_n (q := 58) hx d_Sr_readsSoundly_57 rfl rfl ?_
              refine g_iconst (q := 59) (v := nI 1) hx d_Sr_readsSoundly_58 rfl (by decide) ?_
              refine g_iadd (q := 60) hx d_Sr_readsSoundly_59 rfl (nI_add _ _) ?_
              refine g_iald (q := 61) hx d_Sr_readsSoundly_60 rfl has_.2.1 rfl (by omega) (by decide) hb1 ?_
              refine g_istore_n (q := 62) (lc' := [(3, _), (2, _), (0, _), (1, _)]) hx d_Sr_readsSoundly_61 rfl (by decide) rfl ?_
              refine g_iconst (q := 63) (v := nI 0) hx d_Sr_readsSoundly_62 rfl (by decide) ?_
              refine g_istore (q := 65) (lc' := [(4, _), (3, _), (2, _), (0, _), (1, _)]) hx d_Sr_readsSoundly_63 rfl (by decide) rfl ?_
              exact loop 0 Mo [] (arch (b + 1)) (mD0 by_) 1000 (by omega) rfl zo1 ⟨hpo, mD0_ok hv, by show 4 + 1000 < 100000; omega⟩ (by omega) (by omega) (fun q hq => absurd hq (Nat.not_lt_zero _)) (fun q hq => absurd hq (Nat.not_lt_zero _)) (fun q => absurd q (Nat.lt_irrefl _)) (by
                rw [Nat.sub_zero]
                cases mTs by_ ref len c (arch (b + 1)) (mD0 by_) <;> rfl)
            · exact absurd h45 (by omega)
          · refine g_if_ne (q := 48) (t := 50) hx d_Sr_readsSoundly_45 rfl rfl (zb_ne0 (by omega)) (fun h45 => ?_) (fun h45 => ?_)
            · exact absurd h45 (by omega)
            · refine g_iconst (q := 49) (v := nI 0) hx d_Sr_readsSoundly_48 rfl (by decide) ?_
              exact g_zret hx d_Sr_readsSoundly_49 rfl (by decide) hQ ⟨Nat.le_refl _, Nat.le_refl _⟩ ⟨_, rfl, rfl, rfl, by first | exact zOm.rf | exact zo1, Or.inr ⟨rfl, by first | (rw [hT, if_pos (by omega)]) | (rw [hT, if_neg (by omega), show c = (c - 1) + 1 by omega, mTs_ff hrf.2.2.1 hv])⟩⟩
    · exact absurd h8 (by omega)
  · refine g_if_ne (q := 11) (t := 13) hx d_Sr_readsSoundly_8 rfl rfl (zb_ne0 (by omega)) (fun h8 => ?_) (fun h8 => ?_)
    · exact absurd h8 (by omega)
    · refine g_iconst (q := 12) (v := nI 0) hx d_Sr_readsSoundly_11 rfl (by decide) ?_
      exact g_zret hx d_Sr_readsSoundly_12 rfl (by decide) hQ ⟨Nat.le_refl _, Nat.le_refl _⟩ ⟨_, rfl, rfl, rfl, zOm.rf, Or.inr ⟨rfl, by
         unfold mTake
         rw [mRlen_of] at hz
         by_cases c1 : size ≤ b + 4
         · rw [if_pos c1]
         · rw [if_neg c1, if_pos (Or.inr (Or.inr (by omega)))]⟩⟩
