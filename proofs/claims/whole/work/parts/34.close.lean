set_option maxHeartbeats 4000000 in
set_option maxRecDepth 100000 in
theorem c_En_closeRow (l : Launch) (E : zE) (Γ : zG) (n : Nat) (M : zM) (X low rg r : Nat) (lk row : Nat → Nat) (hs : pEs Γ M.2.2 X) (hlow : zl M X 4 = lN low) (hl32 : low < 4294967296) (hrw : pEr M X r row) (hr : r ≤ 246) (h256 : ∀ j, j < r → row j < 256) :
    zCt l E Y_En_closeRow 1 (0, 0) [.ref X] Γ n M (zPv Γ n (fun M' => zOm (fun a => a = X ∨ a = X + 2) M M' ∧ zi M' X 3 = nI (mStrip (mSeal (low, rg, lk, r, row)) (r + 4) + 3) ∧ (∀ j, j < mStrip (mSeal (low, rg, lk, r, row)) (r + 4) → zi M' (X + 2) (j + 3) = nI (mSeal (low, rg, lk, r, row) j)) ∧ zi M' (X + 2) 2 = nI (mStrip (mSeal (low, rg, lk, r, row)) (r + 4)) ∧ ∀ j, j < 2 → zi M' (X + 2) j = zi M (X + 2) j)) := by
  refine zCt.of [(0, .ref X)] (by decide) (Nat.le_of_ble_eq_true rfl) rfl (fun f hfl hx hQ => ?_)
  obtain ⟨hg0, hg1, hg2, hp0, hp2, hX0⟩ := hs
  have hp0 : zr M X 0 = X + 1 := hp0
  have hp2 : zr M X 2 = X + 2 := hp2
  have hse : ∀ j, j < r + 4 → mSeal (low, rg, lk, r, row) j < 256 := by
    intro j hj
    unfold mSeal mUp
    dsimp only
    split
    · omega
    · split
      · omega
      · split
        · omega
        · split
          · omega
          · exact h256 j (by omega)
  have loop : ∀ (m : Nat) (M1 : zM), ∀ (z : Int32), zOm (fun a => a = X ∨ a = X + 2) M M1 → zi M1 X 3 = nI (m + 3) → (∀ j, j < m → zi M1 (X + 2) (j + 3) = nI (mSeal (low, rg, lk, r, row) j)) → (∀ j, j < 3 → zi M1 (X + 2) j = zi M (X + 2) j) → mStrip (mSeal (low, rg, lk, r, row)) m = mStrip (mSeal (low, rg, lk, r, row)) (r + 4) → m ≤ r + 4 → zGo f E Γ n (0, 0) M1 17 [(1, .int z), (0, .ref X)] [] := by
    refine z_lp (fun m => m) _ ?_
    intro m M1 ih z i1 i2 i3 i4 i5 hm4
    have hp21 : zr M1 X 2 = X + 2 := by
      show M1.2.2 X 2 = X + 2
      rw [i1.r]; exact hp2
    refine g_aload_n (q := 18) hx d_En_closeRow_17 rfl rfl ?_
    refine g_geti (q := 21) hx d_En_closeRow_18 rfl fl_En_15 (by assumption) i2 ?_
    refine g_iconst (q := 22) (v := nI 3) hx d_En_closeRow_21 rfl (by decide) ?_
    refine g_icmp_le (q := 25) (t := 52) hx d_En_closeRow_22 rfl rfl (nI_leI (by omega) (by omega)) (fun h22 => ?_) (fun h22 => ?_)
    · have hm : mStrip (mSeal (low, rg, lk, r, row)) (r + 4) = m := by
        obtain rfl : m = 0 := (by omega)
        rw [← i5]; rfl
      refine g_aload_n (q := 53) hx d_En_closeRow_52 rfl rfl ?_
      refine g_geta (q := 56) hx d_En_closeRow_53 rfl fl_En_9 (by assumption) hp21 (by omega) ?_
      refine g_iconst (q := 57) (v := nI 2) hx d_En_closeRow_56 rfl (by decide) ?_
      refine g_aload_n (q := 58) hx d_En_closeRow_57 rfl rfl ?_
      refine g_geti (q := 61) hx d_En_closeRow_58 rfl fl_En_15 (by assumption) i2 ?_
      refine g_iconst (q := 62) (v := nI 3) hx d_En_closeRow_61 rfl (by decide) ?_
      refine g_isub (q := 63) hx d_En_closeRow_62 rfl (pk_sub (by omega)) ?_
      refine g_iast (q := 64) hx d_En_closeRow_63 rfl (by assumption) rfl (by omega) (by decide) ?_
      exact g_vret hx d_En_closeRow_64 rfl hQ ⟨Nat.le_refl _, Nat.le_refl _⟩ ⟨rfl, rfl, rfl, i1.si (Or.inr rfl), by rw [zi_a (by omega), hm]; exact i2, fun j hj => by rw [zi_k (by omega)]; exact i3 j (by omega), by rw [zi_s, hm]; exact congrArg nI (by omega), fun j hj => by rw [zi_k (by omega)]; exact i4 j (by omega)⟩
    · obtain ⟨m, rfl⟩ : ∃ j, m = j + 1 := ⟨m - 1, by omega⟩
      have hrm := i3 m (by omega)
      have h2m := hse m (by omega)
      refine g_aload_n (q := 26) hx d_En_closeRow_25 rfl rfl ?_
      refine g_geta (q := 29) hx d_En_closeRow_26 rfl fl_En_9 (by assumption) hp21 (by omega) ?_
      refine g_aload_n (q := 30) hx d_En_closeRow_29 rfl rfl ?_
      refine g_geti (q := 33) hx d_En_closeRow_30 rfl fl_En_15 (by assumption) i2 ?_
      refine g_iconst (q := 34) (v := nI 1) hx d_En_closeRow_33 rfl (by decide) ?_
      refine g_isub (q := 35) hx d_En_closeRow_34 rfl (pk_sub (by omega)) ?_
      refine g_iald (q := 36) hx d_En_closeRow_35 rfl (by assumption) rfl (by omega) (by decide) hrm ?_
      refine g_if_ne (q := 39) (t := 52) hx d_En_closeRow_36 rfl rfl (zb_ne0 (by omega)) (fun h36 => ?_) (fun h36 => ?_)
      · have hm : mStrip (mSeal (low, rg, lk, r, row)) (r + 4) = m + 1 := by
          rw [← i5]; simp only [mStrip]
          rw [if_neg (by omega)]
        refine g_aload_n (q := 53) hx d_En_closeRow_52 rfl rfl ?_
        refine g_geta (q := 56) hx d_En_closeRow_53 rfl fl_En_9 (by assumption) hp21 (by omega) ?_
        refine g_iconst (q := 57) (v := nI 2) hx d_En_closeRow_56 rfl (by decide) ?_
        refine g_aload_n (q := 58) hx d_En_closeRow_57 rfl rfl ?_
        refine g_geti (q := 61) hx d_En_closeRow_58 rfl fl_En_15 (by assumption) i2 ?_
        refine g_iconst (q := 62) (v := nI 3) hx d_En_closeRow_61 rfl (by decide) ?_
        refine g_isub (q := 63) hx d_En_closeRow_62 rfl (pk_sub (by omega)) ?_
        refine g_iast (q := 64) hx d_En_closeRow_63 rfl (by assumption) rfl (by omega) (by decide) ?_
        exact g_vret hx d_En_closeRow_64 rfl hQ ⟨Nat.le_refl _, Nat.le_refl _⟩ ⟨rfl, rfl, rfl, i1.si (Or.inr rfl), by rw [zi_a (by omega), hm]; exact i2, fun j hj => by rw [zi_k (by omega)]; exact i3 j (by omega), by rw [zi_s, hm]; exact congrArg nI (by omega), fun j hj => by rw [zi_k (by omega)]; exact i4 j (by omega)⟩
      · refine g_aload_n (q := 40) hx d_En_closeRow_39 rfl rfl ?_
        refine g_dup (q := 41) hx d_En_closeRow_40 rfl rfl ?_
        refine g_geti (q := 44) hx d_En_closeRow_41 rfl fl_En_15 (by assumption) i2 ?_
        refine g_iconst (q := 45) (v := nI 1) hx d_En_closeRow_44 rfl (by decide) ?_
        refine g_isub (q := 46) hx d_En_closeRow_45 rfl (pk_sub (by omega)) ?_
        refine g_puti (q := 49) hx d_En_closeRow_46 rfl fl_En_15 nf_2_3 (by assumption) ?_
        refine g_goto (q := 17) hx d_En_closeRow_49 rfl ?_
        refine ih m _ (by omega) _ (i1.si (Or.inl rfl)) (by rw [zi_s]; rfl) (fun j hj => by rw [zi_a (by omega)]; exact i3 j (by omega)) (fun j hj => by rw [zi_a (by omega)]; exact i4 j hj) ?_ (by omega)
        rw [← i5]
        simp only [mStrip]
        rw [if_pos (by omega)]
  refine g_iconst (q := 1) (v := nI 0) hx d_En_closeRow_0 rfl (by decide) ?_
  refine g_istore_n (q := 2) (lc' := [(1, _), (0, _)]) hx d_En_closeRow_1 rfl (by decide) rfl ?_
  refine g_iload_n (q := 3) hx d_En_closeRow_2 rfl rfl ?_
  refine g_iconst (q := 4) (v := nI 4) hx d_En_closeRow_3 rfl (by decide) ?_
  refine g_icmp_ge (q := 7) (t := 17) hx d_En_closeRow_4 rfl rfl (nI_leI (by omega) (by omega)) (fun h4 => ?_) (fun h4 => ?_)
  · exact absurd h4 (by omega)
  · refine g_aload_n (q := 8) hx d_En_closeRow_7 rfl rfl ?_
    refine g_cv (q := 11) (zrunV hx d_En_closeRow_8 lk_En_61 rfl rfl (by assumption) rfl rfl (Nat.le_of_ble_eq_true rfl) (by decide) (by omega) (by omega) (c_En_shiftByte _ E Γ n _ X low (r + 0) row ⟨hg0, hg1, hg2, hp0, hp2, hX0⟩ hlow (by omega) hrw (by omega))) rfl (fun M80 p8 => ?_)
    obtain ⟨t0, u0, -, v0, w0⟩ := p8
    refine g_iinc (q := 14) (lc' := [(1, _), (0, _)]) hx d_En_closeRow_11 rfl rfl (z_inc _) (by decide) rfl ?_
    refine g_goto (q := 2) hx d_En_closeRow_14 rfl ?_
    refine g_iload_n (q := 3) hx d_En_closeRow_2 rfl rfl ?_
    refine g_iconst (q := 4) (v := nI 4) hx d_En_closeRow_3 rfl (by decide) ?_
    refine g_icmp_ge (q := 7) (t := 17) hx d_En_closeRow_4 rfl rfl (nI_leI (by omega) (by omega)) (fun h4 => ?_) (fun h4 => ?_)
    · exact absurd h4 (by omega)
    · refine g_aload_n (q := 8) hx d_En_closeRow_7 rfl rfl ?_
      have hp01 : M80.2.2 X 0 = X + 1 := by rw [t0.r]; exact hp0
      have hp21 : M80.2.2 X 2 = X + 2 := by rw [t0.r]; exact hp2
      refine g_cv (q := 11) (zrunV hx d_En_closeRow_8 lk_En_61 rfl rfl (by assumption) rfl rfl (Nat.le_of_ble_eq_true rfl) (by decide) (by omega) (by omega) (c_En_shiftByte _ E Γ n _ X (low % 16777216 * 256) (r + 1) (mUp row (r + 0) (low / 16777216)) ⟨hg0, hg1, hg2, hp01, hp21, hX0⟩ u0 (by omega) v0 (by omega))) rfl (fun M81 p8 => ?_)
      obtain ⟨t1, u1, -, v1, w1⟩ := p8
      have t1 := t0.tr t1
      have w1 := fun j hj => (w1 j hj).trans (w0 j hj)
      refine g_iinc (q := 14) (lc' := [(1, _), (0, _)]) hx d_En_closeRow_11 rfl rfl (z_inc _) (by decide) rfl ?_
      refine g_goto (q := 2) hx d_En_closeRow_14 rfl ?_
      refine g_iload_n (q := 3) hx d_En_closeRow_2 rfl rfl ?_
      refine g_iconst (q := 4) (v := nI 4) hx d_En_closeRow_3 rfl (by decide) ?_
      refine g_icmp_ge (q := 7) (t := 17) hx d_En_closeRow_4 rfl rfl (nI_leI (by omega) (by omega)) (fun h4 => ?_) (fun h4 => ?_)
      · exact absurd h4 (by omega)
      · refine g_aload_n (q := 8) hx d_En_closeRow_7 rfl rfl ?_
        have hp02 : M81.2.2 X 0 = X + 1 := by rw [t1.r]; exact hp0
        have hp22 : M81.2.2 X 2 = X + 2 := by rw [t1.r]; exact hp2
        refine g_cv (q := 11) (zrunV hx d_En_closeRow_8 lk_En_61 rfl rfl (by assumption) rfl rfl (Nat.le_of_ble_eq_true rfl) (by decide) (by omega) (by omega) (c_En_shiftByte _ E Γ n _ X (low % 16777216 * 256 % 16777216 * 256) (r + 2) (mUp (mUp row (r + 0) (low / 16777216)) (r + 1) ((low % 16777216 * 256) / 16777216)) ⟨hg0, hg1, hg2, hp02, hp22, hX0⟩ u1 (by omega) v1 (by omega))) rfl (fun M82 p8 => ?_)
        obtain ⟨t2, u2, -, v2, w2⟩ := p8
        have t2 := t1.tr t2
        have w2 := fun j hj => (w2 j hj).trans (w1 j hj)
        refine g_iinc (q := 14) (lc' := [(1, _), (0, _)]) hx d_En_closeRow_11 rfl rfl (z_inc _) (by decide) rfl ?_
        refine g_goto (q := 2) hx d_En_closeRow_14 rfl ?_
        refine g_iload_n (q := 3) hx d_En_closeRow_2 rfl rfl ?_
        refine g_iconst (q := 4) (v := nI 4) hx d_En_closeRow_3 rfl (by decide) ?_
        refine g_icmp_ge (q := 7) (t := 17) hx d_En_closeRow_4 rfl rfl (nI_leI (by omega) (by omega)) (fun h4 => ?_) (fun h4 => ?_)
        · exact absurd h4 (by omega)
        · refine g_aload_n (q := 8) hx d_En_closeRow_7 rfl rfl ?_
          have hp03 : M82.2.2 X 0 = X + 1 := by rw [t2.r]; exact hp0
          have hp23 : M82.2.2 X 2 = X + 2 := by rw [t2.r]; exact hp2
          refine g_cv (q := 11) (zrunV hx d_En_closeRow_8 lk_En_61 rfl rfl (by assumption) rfl rfl (Nat.le_of_ble_eq_true rfl) (by decide) (by omega) (by omega) (c_En_shiftByte _ E Γ n _ X (low % 16777216 * 256 % 16777216 * 256 % 16777216 * 256) (r + 3) (mUp (mUp (mUp row (r + 0) (low / 16777216)) (r + 1) ((low % 16777216 * 256) / 16777216)) (r + 2) ((low % 16777216 * 256 % 16777216 * 256) / 16777216)) ⟨hg0, hg1, hg2, hp03, hp23, hX0⟩ u2 (by omega) v2 (by omega))) rfl (fun M83 p8 => ?_)
          obtain ⟨t3, u3, -, v3, w3⟩ := p8
          have t3 := t2.tr t3
          have w3 := fun j hj => (w3 j hj).trans (w2 j hj)
          refine g_iinc (q := 14) (lc' := [(1, _), (0, _)]) hx d_En_closeRow_11 rfl rfl (z_inc _) (by decide) rfl ?_
          refine g_goto (q := 2) hx d_En_closeRow_14 rfl ?_
          refine g_iload_n (q := 3) hx d_En_closeRow_2 rfl rfl ?_
          refine g_iconst (q := 4) (v := nI 4) hx d_En_closeRow_3 rfl (by decide) ?_
          refine g_icmp_ge (q := 7) (t := 17) hx d_En_closeRow_4 rfl rfl (nI_leI (by omega) (by omega)) (fun h4 => ?_) (fun h4 => ?_)
          · have esl : mUp (mUp (mUp (mUp row (r + 0) (low / 16777216)) (r + 1) ((low % 16777216 * 256) / 16777216)) (r + 2) ((low % 16777216 * 256 % 16777216 * 256) / 16777216)) (r + 3) ((low % 16777216 * 256 % 16777216 * 256 % 16777216 * 256) / 16777216) = mSeal (low, rg, lk, r, row) := by
              unfold mSeal
              dsimp only
              rw [show (low % 16777216 * 256) / 16777216 = low / 65536 % 256 by omega, show (low % 16777216 * 256 % 16777216 * 256) / 16777216 = low / 256 % 256 by omega, show (low % 16777216 * 256 % 16777216 * 256 % 16777216 * 256) / 16777216 = low % 256 by omega]
              rfl
            rw [esl] at v3
            exact loop (r + 4) M83 _ t3 v3.1 v3.2 w3 rfl (Nat.le_refl _)
          · exact absurd (by omega) h4
set_option maxHeartbeats 4000000 in
set_option maxRecDepth 100000 in
theorem c_En_addCheck (l : Launch) (E : zE) (Γ : zG) (n : Nat) (M : zM) (X L : Nat) (fb : Nat → Nat) (hs : pEs Γ M.2.2 X) (hlen : zi M X 3 = nI L) (hL : L ≤ 258) (hf : ∀ j, j < L → zi M (X + 2) j = nI (fb j)) (h256 : ∀ j, j < L → fb j < 256) :
    zCt l E Y_En_addCheck 0 (0, 0) [.ref X] Γ n M (zPv Γ n (fun M' => zOm (fun a => a = X ∨ a = X + 2) M M' ∧ zi M' X 3 = nI (L + 2) ∧ ∀ j, j < L + 2 → zi M' (X + 2) j = nI (if j = L then mChk fb L / 256 else if j = L + 1 then mChk fb L % 256 else fb j))) := by
  refine zCt.of [(0, .ref X)] (by decide) (Nat.le_of_ble_eq_true rfl) rfl (fun f hfl hx hQ => ?_)
  obtain ⟨hg0, hg1, hg2, hp0, hp2, hX0⟩ := hs
  have hp0 : zr M X 0 = X + 1 := hp0
  have hp2 : zr M X 2 = X + 2 := hp2
  have loop : ∀ (i : Nat), i ≤ L → zGo f E Γ n (0, 0) M 5 [(2, .int (nI i)), (1, .int (nI (mChk fb i))), (0, .ref X)] [] := by
    refine z_loop (fun i => L - i) _ ?_
    intro i ih hi
    refine g_iload_n (q := 6) hx d_En_addCheck_5 rfl rfl ?_
    refine g_aload_n (q := 7) hx d_En_addCheck_6 rfl rfl ?_
    refine g_geti (q := 10) hx d_En_addCheck_7 rfl fl_En_15 (by assumption) hlen ?_
    refine g_icmp_ge (q := 13) (t := 34) hx d_En_addCheck_10 rfl rfl (nI_leI (by omega) (by omega)) (fun h10 => ?_) (fun h10 => ?_)
    · obtain rfl : i = L := (by omega)
      have hck := mChk_lt fb i
      refine g_aload_n (q := 35) hx d_En_addCheck_34 rfl rfl ?_
      refine g_geti (q := 38) hx d_En_addCheck_35 rfl fl_En_15 (by assumption) hlen ?_
      refine g_iconst (q := 39) (v := nI 2) hx d_En_addCheck_38 rfl (by decide) ?_
      refine g_iadd (q := 40) hx d_En_addCheck_39 rfl (nI_add _ _) ?_
      refine g_sipush (q := 43) (v := nI 260) hx d_En_addCheck_40 rfl (by decide) ?_
      refine g_icmp_gt (q := 46) (t := 86) hx d_En_addCheck_43 rfl rfl (nI_ltI (by omega) (by omega)) (fun h43 => ?_) (fun h43 => ?_)
      · exact absurd h43 (by omega)
      · refine g_aload_n (q := 47) hx d_En_addCheck_46 rfl rfl ?_
        refine g_geta (q := 50) hx d_En_addCheck_47 rfl fl_En_9 (by assumption) hp2 (by omega) ?_
        refine g_aload_n (q := 51) hx d_En_addCheck_50 rfl rfl ?_
        refine g_geti (q := 54) hx d_En_addCheck_51 rfl fl_En_15 (by assumption) hlen ?_
        refine g_iload_n (q := 55) hx d_En_addCheck_54 rfl rfl ?_
        refine g_sipush (q := 58) (v := nI 256) hx d_En_addCheck_55 rfl (by decide) ?_
        refine g_idiv (q := 59) hx d_En_addCheck_58 rfl (nI_ne0 (by omega) (by omega)) (pk_div (by omega) (by omega) (by omega)) ?_
        refine g_iast (q := 60) hx d_En_addCheck_59 rfl (by assumption) rfl (by omega) (by decide) ?_
        refine g_aload_n (q := 61) hx d_En_addCheck_60 rfl rfl ?_
        refine g_geta (q := 64) hx d_En_addCheck_61 rfl fl_En_9 (by assumption) hp2 (by omega) ?_
        refine g_aload_n (q := 65) hx d_En_addCheck_64 rfl rfl ?_
        refine g_geti (q := 68) hx d_En_addCheck_65 rfl fl_En_15 (by assumption) ((zi_a (by omega)).trans hlen) ?_
        refine g_iconst (q := 69) (v := nI 1) hx d_En_addCheck_68 rfl (by decide) ?_
        refine g_iadd (q := 70) hx d_En_addCheck_69 rfl (nI_add _ _) ?_
        refine g_iload_n (q := 71) hx d_En_addCheck_70 rfl rfl ?_
        refine g_sipush (q := 74) (v := nI 256) hx d_En_addCheck_71 rfl (by decide) ?_
        refine g_irem (q := 75) hx d_En_addCheck_74 rfl (nI_ne0 (by omega) (by omega)) (pk_rem (by omega) (by omega) (by omega)) ?_
        refine g_iast (q := 76) hx d_En_addCheck_75 rfl (by assumption) rfl (by omega) (by decide) ?_
        refine g_aload_n (q := 77) hx d_En_addCheck_76 rfl rfl ?_
        refine g_dup (q := 78) hx d_En_addCheck_77 rfl rfl ?_
        refine g_geti (q := 81) hx d_En_addCheck_78 rfl fl_En_15 (by assumption) ((zi_a (by omega)).trans ((zi_a (by omega)).trans hlen)) ?_
        refine g_iconst (q := 82) (v := nI 2) hx d_En_addCheck_81 rfl (by decide) ?_
        refine g_iadd (q := 83) hx d_En_addCheck_82 rfl (nI_add _ _) ?_
        refine g_puti (q := 86) hx d_En_addCheck_83 rfl fl_En_15 nf_2_3 (by assumption) ?_
        exact g_vret hx d_En_addCheck_86 rfl hQ ⟨Nat.le_refl _, Nat.le_refl _⟩ ⟨rfl, rfl, rfl, ((zOm.rf.si (Or.inr rfl)).si (Or.inr rfl)).si (Or.inl rfl), by rw [zi_s], fun j hj => by
           rw [zi_a (by omega)]
           by_cases c1 : j = i
           · subst c1; rw [if_pos rfl, zi_k (by omega), zi_s]
           · rw [if_neg c1]
             by_cases c2 : j = i + 1
             · subst c2; rw [if_pos rfl, zi_s]
             · rw [if_neg c2, zi_k (by omega), zi_k (by omega)]; exact hf j (by omega)⟩
    · have hfi := h256 i (by omega)
      have hck := mChk_lt fb i
      refine g_bipush (q := 15) (v := nI 31) hx d_En_addCheck_13 rfl (by decide) ?_
      refine g_iload_n (q := 16) hx d_En_addCheck_15 rfl rfl ?_
      refine g_imul (q := 17) hx d_En_addCheck_16 rfl (pk_mul _ _) ?_
      refine g_aload_n (q := 18) hx d_En_addCheck_17 rfl rfl ?_
      refine g_geta (q := 21) hx d_En_addCheck_18 rfl fl_En_9 (by assumption) (by assumption) (by omega) ?_
      refine g_iload_n (q := 22) hx d_En_addCheck_21 rfl rfl ?_
      refine g_iald (q := 23) hx d_En_addCheck_22 rfl (by assumption) rfl (by omega) (by decide) (hf i (by omega)) ?_
      refine g_iadd (q := 24) hx d_En_addCheck_23 rfl (nI_add _ _) ?_
      refine g_ldc (q := 26) (v := nI 65521) hx d_En_addCheck_24 rfl ct_En_64 ?_
      refine g_irem (q := 27) hx d_En_addCheck_26 rfl (nI_ne0 (by omega) (by omega)) (pk_rem (by omega) (by omega) (by omega)) ?_
      refine g_istore_n (q := 28) (lc' := [(1, _), (2, _), (0, _)]) hx d_En_addCheck_27 rfl (by decide) rfl ?_
      refine g_iinc (q := 31) (lc' := [(2, _), (1, _), (0, _)]) hx d_En_addCheck_28 rfl rfl (z_inc _) (by decide) rfl ?_
      refine g_goto (q := 5) hx d_En_addCheck_31 rfl ?_
      exact ih (i + 1) (by show L - (i + 1) < L - i; omega) (by omega)
  refine g_bipush (q := 2) (v := nI 7) hx d_En_addCheck_0 rfl (by decide) ?_
  refine g_istore_n (q := 3) (lc' := [(1, _), (0, _)]) hx d_En_addCheck_2 rfl (by decide) rfl ?_
  refine g_iconst (q := 4) (v := nI 0) hx d_En_addCheck_3 rfl (by decide) ?_
  refine g_istore_n (q := 5) (lc' := [(2, _), (1, _), (0, _)]) hx d_En_addCheck_4 rfl (by decide) rfl ?_
  exact loop 0 (Nat.zero_le _)
