set_option maxHeartbeats 4000000 in
set_option maxRecDepth 100000 in
/-- the encoder's bit -/
theorem c_En_bit (l : Launch) (E : zE) (Γ : zG) (n : Nat) (M : zM) (X p b : Nat) (x : Int32) (s : mEn) (hs : pEs Γ M.2.2 X) (he : pEn M X s) (hi : mEi s) (hr : s.2.2.2.1 ≤ 250) (hpx : p < 58 ∧ x = nI p ∨ p = 58 ∧ x = -1) (hb : b < 2) :
    zCt l E Y_Co_bit 1 (0, 0) [.ref X, .int x, .int (nI b)] Γ n M (zPi Γ n (fun v M' => v = nI b ∧ zOm (sEn X) M M' ∧ pEn M' X (mPut s (p, b)) ∧ ∀ j, j < 3 → zi M' (X + 2) j = zi M (X + 2) j)) := by
  refine zCt.of [(0, .ref X), (1, .int x), (2, .int (nI b))] (by decide) (Nat.le_of_ble_eq_true rfl) rfl (fun f hfl hx hQ => ?_)
  obtain ⟨hg0, hg1, hg2, hp0, hp2, hX0⟩ := hs
  have hp0 : zr M X 0 = X + 1 := hp0
  have hp2 : zr M X 2 = X + 2 := hp2
  obtain ⟨e1, e2, e3, e4⟩ := he
  have hp58 : p ≤ 58 := by omega
  have hio := mPut_ok hi hp58 hb
  obtain ⟨h1, h2, h3, h4, h5, h6⟩ := hi
  have hlk := mLi_any h4 hp58
  have hl58 : s.2.2.1 58 = 1024 := h4.2
  have hrg := mRg1_in (b := b) h2 h3 hlk
  have hBle := mB_le (rg := s.2.1) hlk.2
  have hlow2 : mLow2 s p b < 8589934592 := by
    have := hio.2.2
    unfold mLow2; split <;> omega
  have tail : ∀ M1, zOm (sEn X) M M1 → zl M1 X 4 = lN (mLow2 s p b) → zl M1 X 1 = lN (mRg1 s.2.1 (s.2.2.1 p) b) → (∀ q, q < 58 → zi M1 (X + 1) q = nI (mLn s.2.2.1 p b q)) → pEr M1 X s.2.2.2.1 (mRow2 s p b) → (∀ j, j < 3 → zi M1 (X + 2) j = zi M (X + 2) j) → zGo f E Γ n (0, 0) M1 99 [(7, .int (nI 0)), (6, .int (nI b)), (4, .long (lN (mB s.2.1 (s.2.2.1 p)))), (3, .int (nI (s.2.2.1 p))), (0, .ref X), (1, .int x), (2, .int (nI b))] [] := by
    intro M1 t1 t2 t3 t4 t5 t6
    have hp01 : M1.2.2 X 0 = X + 1 := by rw [t1.r]; exact hp0
    have hp21 : M1.2.2 X 2 = X + 2 := by rw [t1.r]; exact hp2
    refine g_iload (q := 101) hx d_Co_bit_99 rfl rfl ?_
    refine g_iconst (q := 102) (v := nI 4) hx d_Co_bit_101 rfl (by decide) ?_
    refine g_icmp_ge (q := 105) (t := 138) hx d_Co_bit_102 rfl rfl (nI_leI (by omega) (by omega)) (fun h102 => ?_) (fun h102 => ?_)
    · exact absurd h102 (by omega)
    · refine g_aload_n (q := 106) hx d_Co_bit_105 rfl rfl ?_
      refine g_getl (q := 109) hx d_Co_bit_106 rfl fl_Co_17E (by assumption) t3 ?_
      refine g_ldc2 (q := 112) (v := lN 16777216) hx d_Co_bit_109 rfl ct_Co_33 ?_
      refine g_lcmp (q := 113) hx d_Co_bit_112 rfl ?_
      refine g_if_ge (q := 116) (t := 138) hx d_Co_bit_113 rfl rfl (zc_ge (by omega) (by omega)) (fun hc0 => ?_) (fun hc0 => ?_)
      · have hc : ¬ mRg1 s.2.1 (s.2.2.1 p) b < 16777216 := by omega
        refine g_iload (q := 140) hx d_Co_bit_138 rfl rfl ?_
        exact g_iret hx d_Co_bit_140 rfl hQ ⟨Nat.le_refl _, Nat.le_refl _⟩ ⟨_, rfl, rfl, rfl, rfl, t1, ⟨by unfold mPut; rw [if_neg hc]; exact t2, by unfold mPut; rw [if_neg hc]; exact t3, by unfold mPut; rw [if_neg hc]; exact t4, by unfold mPut; rw [if_neg hc]; exact t5⟩, t6⟩
      · have hc : mRg1 s.2.1 (s.2.2.1 p) b < 16777216 := by omega
        refine g_aload_n (q := 117) hx d_Co_bit_116 rfl rfl ?_
        refine g_cv (q := 120) (zrunU hx d_Co_bit_117 rfl lk_Co_35E (by assumption) rfl rfl (Nat.le_of_ble_eq_true rfl) (by decide) (by omega) (by omega) (c_En_shiftByte _ E Γ n _ X (mLow2 s p b) s.2.2.2.1 (mRow2 s p b) ⟨hg0, hg1, hg2, hp01, hp21, hX0⟩ t2 (by omega) t5 hr)) rfl (fun M117 p117 => ?_)
        obtain ⟨p1, p2, p3, p4, p5⟩ := p117
        refine g_aload_n (q := 121) hx d_Co_bit_120 rfl rfl ?_
        refine g_dup (q := 122) hx d_Co_bit_121 rfl rfl ?_
        refine g_getl (q := 125) hx d_Co_bit_122 rfl fl_Co_17E (by assumption) (p3.trans t3) ?_
        refine g_ldc2 (q := 128) (v := lN 256) hx d_Co_bit_125 rfl ct_Co_38 ?_
        refine g_lmul (q := 129) hx d_Co_bit_128 rfl (lN_mul _ _) ?_
        refine g_putl (q := 132) hx d_Co_bit_129 rfl fl_Co_17E nf_2_1 (by assumption) ?_
        refine g_iinc (q := 135) (lc' := [(7, _), (6, _), (4, _), (3, _), (0, _), (1, _), (2, _)]) hx d_Co_bit_132 rfl rfl (z_inc _) (by decide) rfl ?_
        refine g_goto (q := 99) hx d_Co_bit_135 rfl ?_
        refine g_iload (q := 101) hx d_Co_bit_99 rfl rfl ?_
        refine g_iconst (q := 102) (v := nI 4) hx d_Co_bit_101 rfl (by decide) ?_
        refine g_icmp_ge (q := 105) (t := 138) hx d_Co_bit_102 rfl rfl (nI_leI (by omega) (by omega)) (fun h102 => ?_) (fun h102 => ?_)
        · exact absurd h102 (by omega)
        · refine g_aload_n (q := 106) hx d_Co_bit_105 rfl rfl ?_
          refine g_getl (q := 109) hx d_Co_bit_106 rfl fl_Co_17E (by assumption) (zl_s _ _ _ _) ?_
          refine g_ldc2 (q := 112) (v := lN 16777216) hx d_Co_bit_109 rfl ct_Co_33 ?_
          refine g_lcmp (q := 113) hx d_Co_bit_112 rfl ?_
          refine g_if_ge (q := 116) (t := 138) hx d_Co_bit_113 rfl rfl (zc_ge (by omega) (by omega)) (fun h113 => ?_) (fun h113 => ?_)
          · refine g_iload (q := 140) hx d_Co_bit_138 rfl rfl ?_
            exact g_iret hx d_Co_bit_140 rfl hQ ⟨Nat.le_refl _, Nat.le_refl _⟩ ⟨_, rfl, rfl, rfl, rfl, (t1.tr (p1.mono (fun a q => by unfold sEn; omega))).sl (Or.inl rfl), ⟨by unfold mPut; rw [if_pos hc, zl_k (by omega)]; exact p2, by unfold mPut; rw [if_pos hc, zl_s], by
                 unfold mPut; rw [if_pos hc]; intro q hq; rw [zi_l, p1.i (by omega)]; exact t4 q hq, by unfold mPut; rw [if_pos hc]; exact p4⟩, fun j hj => by rw [zi_l, p5 j hj]; exact t6 j hj⟩
          · exact absurd (by omega) h113
  rcases hpx with ⟨hp, rfl⟩ | ⟨rfl, rfl⟩
  · have hxn : ¬ nI p = -1 := fun q => by
      have h0 : (0 : Int32) ≤ nI p := nI_pos' (by omega)
      rw [q] at h0
      exact absurd h0 (by decide)
    obtain rfl | rfl : b = 0 ∨ b = 1 := (by omega)
    · refine g_iload_n (q := 1) hx d_Co_bit_0 rfl rfl ?_
      refine g_iconst (q := 2) (v := (-1)) hx d_Co_bit_1 rfl (by decide) ?_
      refine g_icmp_ne (q := 5) (t := 11) hx d_Co_bit_2 rfl rfl (Iff.intro (fun _ => trivial) (fun _ => hxn)) (fun h2 => ?_) (fun h2 => ?_)
      · refine g_aload_n (q := 12) hx d_Co_bit_11 rfl rfl ?_
        refine g_geta (q := 15) hx d_Co_bit_12 rfl fl_Co_9E (by assumption) (by assumption) (by omega) ?_
        refine g_iload_n (q := 16) hx d_Co_bit_15 rfl rfl ?_
        refine g_iald (q := 17) hx d_Co_bit_16 rfl (by assumption) rfl (by omega) (by decide) (e3 p hp) ?_
        refine g_istore_n (q := 18) (lc' := [(3, _), (0, _), (1, _), (2, _)]) hx d_Co_bit_17 rfl (by decide) rfl ?_
        refine g_aload_n (q := 19) hx d_Co_bit_18 rfl rfl ?_
        refine g_getl (q := 22) hx d_Co_bit_19 rfl fl_Co_17E (by assumption) e2 ?_
        refine g_ldc2 (q := 25) (v := lN 2048) hx d_Co_bit_22 rfl ct_Co_27 ?_
        refine g_ldiv (q := 26) hx d_Co_bit_25 rfl (zl_ne0 (by omega) (by omega)) (pk_lDiv (by omega) (by omega) (by omega)) ?_
        refine g_iload_n (q := 27) hx d_Co_bit_26 rfl rfl ?_
        refine g_i2l (q := 28) hx d_Co_bit_27 rfl (nI_l (by omega)) ?_
        refine g_lmul (q := 29) hx d_Co_bit_28 rfl (lN_mul _ _) ?_
        refine g_lstore (q := 31) (lc' := [(4, _), (3, _), (0, _), (1, _), (2, _)]) hx d_Co_bit_29 rfl (by decide) rfl ?_
        refine g_aload_n (q := 32) hx d_Co_bit_31 rfl rfl ?_
        refine g_lload (q := 34) hx d_Co_bit_32 rfl rfl ?_
        refine g_iload_n (q := 35) hx d_Co_bit_34 rfl rfl ?_
        refine g_ci (q := 38) (zrunU hx d_Co_bit_35 rfl lk_Co_29E (by assumption) rfl rfl (Nat.le_of_ble_eq_true rfl) (by decide) (by omega) (by omega) (c_En_choose _ E Γ n _ X s.1 (mB s.2.1 (s.2.2.1 p)) 0 s.2.2.2.1 (mLow1 s p 0) s.2.2.2.2 ⟨hg0, hg1, hg2, hp0, hp2, hX0⟩ e1 (by omega) (by omega) e4 hr h5 rfl)) rfl (fun r35 M35 p35 => ?_)
        obtain ⟨rfl, p1, p2, p3, p4, p5⟩ := p35
        have hp01 : zr M35 X 0 = X + 1 := by
          show M35.2.2 X 0 = X + 1
          rw [p1.r]; exact hp0
        refine g_istore (q := 40) (lc' := [(6, _), (4, _), (3, _), (0, _), (1, _), (2, _)]) hx d_Co_bit_38 rfl (by decide) rfl ?_
        refine g_aload_n (q := 41) hx d_Co_bit_40 rfl rfl ?_
        refine g_iload (q := 43) hx d_Co_bit_41 rfl rfl ?_
        refine g_if_ne (q := 46) (t := 51) hx d_Co_bit_43 rfl rfl (zb_ne0 (by omega)) (fun h43 => ?_) (fun h43 => ?_)
        · exact absurd h43 (by omega)
        · refine g_lload (q := 48) hx d_Co_bit_46 rfl rfl ?_
          refine g_goto (q := 58) hx d_Co_bit_48 rfl ?_
          refine g_putl (q := 61) hx d_Co_bit_58 rfl fl_Co_17E nf_2_1 (by assumption) ?_
          refine g_iload_n (q := 62) hx d_Co_bit_61 rfl rfl ?_
          refine g_iconst (q := 63) (v := (-1)) hx d_Co_bit_62 rfl (by decide) ?_
          refine g_icmp_eq (q := 66) (t := 96) hx d_Co_bit_63 rfl rfl (Iff.intro (fun q => hxn q) (fun q => False.elim q)) (fun h63 => ?_) (fun h63 => ?_)
          · exact h63.elim
          · refine g_aload_n (q := 67) hx d_Co_bit_66 rfl rfl ?_
            refine g_geta (q := 70) hx d_Co_bit_67 rfl fl_Co_9E (by assumption) hp01 (by omega) ?_
            refine g_iload_n (q := 71) hx d_Co_bit_70 rfl rfl ?_
            refine g_iload (q := 73) hx d_Co_bit_71 rfl rfl ?_
            refine g_if_ne (q := 76) (t := 89) hx d_Co_bit_73 rfl rfl (zb_ne0 (by omega)) (fun h73 => ?_) (fun h73 => ?_)
            · exact absurd h73 (by omega)
            · refine g_iload_n (q := 77) hx d_Co_bit_76 rfl rfl ?_
              refine g_sipush (q := 80) (v := nI 2048) hx d_Co_bit_77 rfl (by decide) ?_
              refine g_iload_n (q := 81) hx d_Co_bit_80 rfl rfl ?_
              refine g_isub (q := 82) hx d_Co_bit_81 rfl (pk_sub (by omega)) ?_
              refine g_bipush (q := 84) (v := nI 16) hx d_Co_bit_82 rfl (by decide) ?_
              refine g_idiv (q := 85) hx d_Co_bit_84 rfl (nI_ne0 (by omega) (by omega)) (pk_div (by omega) (by omega) (by omega)) ?_
              refine g_iadd (q := 86) hx d_Co_bit_85 rfl (nI_add _ _) ?_
              refine g_goto (q := 95) hx d_Co_bit_86 rfl ?_
              refine g_iast (q := 96) hx d_Co_bit_95 rfl (by assumption) rfl (by omega) (by decide) ?_
              refine g_iconst (q := 97) (v := nI 0) hx d_Co_bit_96 rfl (by decide) ?_
              refine g_istore (q := 99) (lc' := [(7, _), (6, _), (4, _), (3, _), (0, _), (1, _), (2, _)]) hx d_Co_bit_97 rfl (by decide) rfl ?_
              refine tail _ (((p1.mono (fun a q => by unfold sEn; omega)).sl (Or.inl rfl)).si (Or.inr (Or.inl rfl))) ((zl_k (by omega)).trans p2) (zl_s _ _ _ _) (fun q hq => ?_) ⟨(zi_a (by omega)).trans p4.1, fun j hj => (zi_a (by omega)).trans (p4.2 j hj)⟩ (fun j hj => (zi_a (by omega)).trans (p5 j hj))
              unfold mLn
              rw [if_neg (by omega)]
              by_cases e : q = p
              · subst e; rw [zi_s, mUp_s]; rfl
              · rw [zi_k e, mUp_n e, zi_l, p1.i (by omega)]; exact e3 q hq
      · exact absurd trivial h2
    · refine g_iload_n (q := 1) hx d_Co_bit_0 rfl rfl ?_
      refine g_iconst (q := 2) (v := (-1)) hx d_Co_bit_1 rfl (by decide) ?_
      refine g_icmp_ne (q := 5) (t := 11) hx d_Co_bit_2 rfl rfl (Iff.intro (fun _ => trivial) (fun _ => hxn)) (fun h2 => ?_) (fun h2 => ?_)
      · refine g_aload_n (q := 12) hx d_Co_bit_11 rfl rfl ?_
        refine g_geta (q := 15) hx d_Co_bit_12 rfl fl_Co_9E (by assumption) (by assumption) (by omega) ?_
        refine g_iload_n (q := 16) hx d_Co_bit_15 rfl rfl ?_
        refine g_iald (q := 17) hx d_Co_bit_16 rfl (by assumption) rfl (by omega) (by decide) (e3 p hp) ?_
        refine g_istore_n (q := 18) (lc' := [(3, _), (0, _), (1, _), (2, _)]) hx d_Co_bit_17 rfl (by decide) rfl ?_
        refine g_aload_n (q := 19) hx d_Co_bit_18 rfl rfl ?_
        refine g_getl (q := 22) hx d_Co_bit_19 rfl fl_Co_17E (by assumption) e2 ?_
        refine g_ldc2 (q := 25) (v := lN 2048) hx d_Co_bit_22 rfl ct_Co_27 ?_
        refine g_ldiv (q := 26) hx d_Co_bit_25 rfl (zl_ne0 (by omega) (by omega)) (pk_lDiv (by omega) (by omega) (by omega)) ?_
        refine g_iload_n (q := 27) hx d_Co_bit_26 rfl rfl ?_
        refine g_i2l (q := 28) hx d_Co_bit_27 rfl (nI_l (by omega)) ?_
        refine g_lmul (q := 29) hx d_Co_bit_28 rfl (lN_mul _ _) ?_
        refine g_lstore (q := 31) (lc' := [(4, _), (3, _), (0, _), (1, _), (2, _)]) hx d_Co_bit_29 rfl (by decide) rfl ?_
        refine g_aload_n (q := 32) hx d_Co_bit_31 rfl rfl ?_
        refine g_lload (q := 34) hx d_Co_bit_32 rfl rfl ?_
        refine g_iload_n (q := 35) hx d_Co_bit_34 rfl rfl ?_
        refine g_ci (q := 38) (zrunU hx d_Co_bit_35 rfl lk_Co_29E (by assumption) rfl rfl (Nat.le_of_ble_eq_true rfl) (by decide) (by omega) (by omega) (c_En_choose _ E Γ n _ X s.1 (mB s.2.1 (s.2.2.1 p)) 1 s.2.2.2.1 (mLow1 s p 1) s.2.2.2.2 ⟨hg0, hg1, hg2, hp0, hp2, hX0⟩ e1 (by omega) (by omega) e4 hr h5 rfl)) rfl (fun r35 M35 p35 => ?_)
        obtain ⟨rfl, p1, p2, p3, p4, p5⟩ := p35
        have hp01 : zr M35 X 0 = X + 1 := by
          show M35.2.2 X 0 = X + 1
          rw [p1.r]; exact hp0
        refine g_istore (q := 40) (lc' := [(6, _), (4, _), (3, _), (0, _), (1, _), (2, _)]) hx d_Co_bit_38 rfl (by decide) rfl ?_
        refine g_aload_n (q := 41) hx d_Co_bit_40 rfl rfl ?_
        refine g_iload (q := 43) hx d_Co_bit_41 rfl rfl ?_
        refine g_if_ne (q := 46) (t := 51) hx d_Co_bit_43 rfl rfl (zb_ne0 (by omega)) (fun h43 => ?_) (fun h43 => ?_)
        · refine g_aload_n (q := 52) hx d_Co_bit_51 rfl rfl ?_
          refine g_getl (q := 55) hx d_Co_bit_52 rfl fl_Co_17E (by assumption) (p3.trans e2) ?_
          refine g_lload (q := 57) hx d_Co_bit_55 rfl rfl ?_
          refine g_lsub (q := 58) hx d_Co_bit_57 rfl (lN_sub (by have h7 := hBle; unfold mB at h7; omega)) ?_
          refine g_putl (q := 61) hx d_Co_bit_58 rfl fl_Co_17E nf_2_1 (by assumption) ?_
          refine g_iload_n (q := 62) hx d_Co_bit_61 rfl rfl ?_
          refine g_iconst (q := 63) (v := (-1)) hx d_Co_bit_62 rfl (by decide) ?_
          refine g_icmp_eq (q := 66) (t := 96) hx d_Co_bit_63 rfl rfl (Iff.intro (fun q => hxn q) (fun q => False.elim q)) (fun h63 => ?_) (fun h63 => ?_)
          · exact h63.elim
          · refine g_aload_n (q := 67) hx d_Co_bit_66 rfl rfl ?_
            refine g_geta (q := 70) hx d_Co_bit_67 rfl fl_Co_9E (by assumption) hp01 (by omega) ?_
            refine g_iload_n (q := 71) hx d_Co_bit_70 rfl rfl ?_
            refine g_iload (q := 73) hx d_Co_bit_71 rfl rfl ?_
            refine g_if_ne (q := 76) (t := 89) hx d_Co_bit_73 rfl rfl (zb_ne0 (by omega)) (fun h73 => ?_) (fun h73 => ?_)
            · refine g_iload_n (q := 90) hx d_Co_bit_89 rfl rfl ?_
              refine g_iload_n (q := 91) hx d_Co_bit_90 rfl rfl ?_
              refine g_bipush (q := 93) (v := nI 16) hx d_Co_bit_91 rfl (by decide) ?_
              refine g_idiv (q := 94) hx d_Co_bit_93 rfl (nI_ne0 (by omega) (by omega)) (pk_div (by omega) (by omega) (by omega)) ?_
              refine g_isub (q := 95) hx d_Co_bit_94 rfl (pk_sub (by omega)) ?_
              refine g_iast (q := 96) hx d_Co_bit_95 rfl (by assumption) rfl (by omega) (by decide) ?_
              refine g_iconst (q := 97) (v := nI 0) hx d_Co_bit_96 rfl (by decide) ?_
              refine g_istore (q := 99) (lc' := [(7, _), (6, _), (4, _), (3, _), (0, _), (1, _), (2, _)]) hx d_Co_bit_97 rfl (by decide) rfl ?_
              refine tail _ (((p1.mono (fun a q => by unfold sEn; omega)).sl (Or.inl rfl)).si (Or.inr (Or.inl rfl))) ((zl_k (by omega)).trans p2) (zl_s _ _ _ _) (fun q hq => ?_) ⟨(zi_a (by omega)).trans p4.1, fun j hj => (zi_a (by omega)).trans (p4.2 j hj)⟩ (fun j hj => (zi_a (by omega)).trans (p5 j hj))
              unfold mLn
              rw [if_neg (by omega)]
              by_cases e : q = p
              · subst e; rw [zi_s, mUp_s]; rfl
              · rw [zi_k e, mUp_n e, zi_l, p1.i (by omega)]; exact e3 q hq
            · exact absurd h73 (by omega)
        · exact absurd h43 (by omega)
      · exact absurd trivial h2
  · obtain rfl | rfl : b = 0 ∨ b = 1 := (by omega)
    · refine g_iload_n (q := 1) hx d_Co_bit_0 rfl rfl ?_
      refine g_iconst (q := 2) (v := (-1)) hx d_Co_bit_1 rfl (by decide) ?_
      refine g_icmp_ne (q := 5) (t := 11) hx d_Co_bit_2 rfl rfl Iff.rfl (fun h2 => ?_) (fun h2 => ?_)
      · exact absurd rfl h2
      · refine g_sipush (q := 8) (v := nI 1024) hx d_Co_bit_5 rfl (by decide) ?_
        refine g_goto (q := 17) hx d_Co_bit_8 rfl ?_
        rw [show nI 1024 = nI (s.2.2.1 58) from congrArg nI hl58.symm]
        refine g_istore_n (q := 18) (lc' := [(3, _), (0, _), (1, _), (2, _)]) hx d_Co_bit_17 rfl (by decide) rfl ?_
        refine g_aload_n (q := 19) hx d_Co_bit_18 rfl rfl ?_
        refine g_getl (q := 22) hx d_Co_bit_19 rfl fl_Co_17E (by assumption) e2 ?_
        refine g_ldc2 (q := 25) (v := lN 2048) hx d_Co_bit_22 rfl ct_Co_27 ?_
        refine g_ldiv (q := 26) hx d_Co_bit_25 rfl (zl_ne0 (by omega) (by omega)) (pk_lDiv (by omega) (by omega) (by omega)) ?_
        refine g_iload_n (q := 27) hx d_Co_bit_26 rfl rfl ?_
        refine g_i2l (q := 28) hx d_Co_bit_27 rfl (nI_l (by omega)) ?_
        refine g_lmul (q := 29) hx d_Co_bit_28 rfl (lN_mul _ _) ?_
        refine g_lstore (q := 31) (lc' := [(4, _), (3, _), (0, _), (1, _), (2, _)]) hx d_Co_bit_29 rfl (by decide) rfl ?_
        refine g_aload_n (q := 32) hx d_Co_bit_31 rfl rfl ?_
        refine g_lload (q := 34) hx d_Co_bit_32 rfl rfl ?_
        refine g_iload_n (q := 35) hx d_Co_bit_34 rfl rfl ?_
        refine g_ci (q := 38) (zrunU hx d_Co_bit_35 rfl lk_Co_29E (by assumption) rfl rfl (Nat.le_of_ble_eq_true rfl) (by decide) (by omega) (by omega) (c_En_choose _ E Γ n _ X s.1 (mB s.2.1 (s.2.2.1 58)) 0 s.2.2.2.1 (mLow1 s 58 0) s.2.2.2.2 ⟨hg0, hg1, hg2, hp0, hp2, hX0⟩ e1 (by omega) (by omega) e4 hr h5 rfl)) rfl (fun r35 M35 p35 => ?_)
        obtain ⟨rfl, p1, p2, p3, p4, p5⟩ := p35
        have hp01 : zr M35 X 0 = X + 1 := by
          show M35.2.2 X 0 = X + 1
          rw [p1.r]; exact hp0
        refine g_istore (q := 40) (lc' := [(6, _), (4, _), (3, _), (0, _), (1, _), (2, _)]) hx d_Co_bit_38 rfl (by decide) rfl ?_
        refine g_aload_n (q := 41) hx d_Co_bit_40 rfl rfl ?_
        refine g_iload (q := 43) hx d_Co_bit_41 rfl rfl ?_
        refine g_if_ne (q := 46) (t := 51) hx d_Co_bit_43 rfl rfl (zb_ne0 (by omega)) (fun h43 => ?_) (fun h43 => ?_)
        · exact absurd h43 (by omega)
        · refine g_lload (q := 48) hx d_Co_bit_46 rfl rfl ?_
          refine g_goto (q := 58) hx d_Co_bit_48 rfl ?_
          refine g_putl (q := 61) hx d_Co_bit_58 rfl fl_Co_17E nf_2_1 (by assumption) ?_
          refine g_iload_n (q := 62) hx d_Co_bit_61 rfl rfl ?_
          refine g_iconst (q := 63) (v := (-1)) hx d_Co_bit_62 rfl (by decide) ?_
          refine g_icmp_eq (q := 66) (t := 96) hx d_Co_bit_63 rfl rfl Iff.rfl (fun h63 => ?_) (fun h63 => ?_)
          · refine g_iconst (q := 97) (v := nI 0) hx d_Co_bit_96 rfl (by decide) ?_
            refine g_istore (q := 99) (lc' := [(7, _), (6, _), (4, _), (3, _), (0, _), (1, _), (2, _)]) hx d_Co_bit_97 rfl (by decide) rfl ?_
            exact tail _ ((p1.mono (fun a q => by unfold sEn; omega)).sl (Or.inl rfl)) ((zl_k (by omega)).trans p2) (zl_s _ _ _ _) (fun q hq => by rw [zi_l, p1.i (by omega)]; exact e3 q hq) p4 (fun j hj => p5 j hj)
          · exact absurd rfl h63
    · refine g_iload_n (q := 1) hx d_Co_bit_0 rfl rfl ?_
      refine g_iconst (q := 2) (v := (-1)) hx d_Co_bit_1 rfl (by decide) ?_
      refine g_icmp_ne (q := 5) (t := 11) hx d_Co_bit_2 rfl rfl Iff.rfl (fun h2 => ?_) (fun h2 => ?_)
      · exact absurd rfl h2
      · refine g_sipush (q := 8) (v := nI 1024) hx d_Co_bit_5 rfl (by decide) ?_
        refine g_goto (q := 17) hx d_Co_bit_8 rfl ?_
        rw [show nI 1024 = nI (s.2.2.1 58) from congrArg nI hl58.symm]
        refine g_istore_n (q := 18) (lc' := [(3, _), (0, _), (1, _), (2, _)]) hx d_Co_bit_17 rfl (by decide) rfl ?_
        refine g_aload_n (q := 19) hx d_Co_bit_18 rfl rfl ?_
        refine g_getl (q := 22) hx d_Co_bit_19 rfl fl_Co_17E (by assumption) e2 ?_
        refine g_ldc2 (q := 25) (v := lN 2048) hx d_Co_bit_22 rfl ct_Co_27 ?_
        refine g_ldiv (q := 26) hx d_Co_bit_25 rfl (zl_ne0 (by omega) (by omega)) (pk_lDiv (by omega) (by omega) (by omega)) ?_
        refine g_iload_n (q := 27) hx d_Co_bit_26 rfl rfl ?_
        refine g_i2l (q := 28) hx d_Co_bit_27 rfl (nI_l (by omega)) ?_
        refine g_lmul (q := 29) hx d_Co_bit_28 rfl (lN_mul _ _) ?_
        refine g_lstore (q := 31) (lc' := [(4, _), (3, _), (0, _), (1, _), (2, _)]) hx d_Co_bit_29 rfl (by decide) rfl ?_
        refine g_aload_n (q := 32) hx d_Co_bit_31 rfl rfl ?_
        refine g_lload (q := 34) hx d_Co_bit_32 rfl rfl ?_
        refine g_iload_n (q := 35) hx d_Co_bit_34 rfl rfl ?_
        refine g_ci (q := 38) (zrunU hx d_Co_bit_35 rfl lk_Co_29E (by assumption) rfl rfl (Nat.le_of_ble_eq_true rfl) (by decide) (by omega) (by omega) (c_En_choose _ E Γ n _ X s.1 (mB s.2.1 (s.2.2.1 58)) 1 s.2.2.2.1 (mLow1 s 58 1) s.2.2.2.2 ⟨hg0, hg1, hg2, hp0, hp2, hX0⟩ e1 (by omega) (by omega) e4 hr h5 rfl)) rfl (fun r35 M35 p35 => ?_)
        obtain ⟨rfl, p1, p2, p3, p4, p5⟩ := p35
        have hp01 : zr M35 X 0 = X + 1 := by
          show M35.2.2 X 0 = X + 1
          rw [p1.r]; exact hp0
        refine g_istore (q := 40) (lc' := [(6, _), (4, _), (3, _), (0, _), (1, _), (2, _)]) hx d_Co_bit_38 rfl (by decide) rfl ?_
        refine g_aload_n (q := 41) hx d_Co_bit_40 rfl rfl ?_
        refine g_iload (q := 43) hx d_Co_bit_41 rfl rfl ?_
        refine g_if_ne (q := 46) (t := 51) hx d_Co_bit_43 rfl rfl (zb_ne0 (by omega)) (fun h43 => ?_) (fun h43 => ?_)
        · refine g_aload_n (q := 52) hx d_Co_bit_51 rfl rfl ?_
          refine g_getl (q := 55) hx d_Co_bit_52 rfl fl_Co_17E (by assumption) (p3.trans e2) ?_
          refine g_lload (q := 57) hx d_Co_bit_55 rfl rfl ?_
          refine g_lsub (q := 58) hx d_Co_bit_57 rfl (lN_sub (by have h7 := hBle; unfold mB at h7; omega)) ?_
          refine g_putl (q := 61) hx d_Co_bit_58 rfl fl_Co_17E nf_2_1 (by assumption) ?_
          refine g_iload_n (q := 62) hx d_Co_bit_61 rfl rfl ?_
          refine g_iconst (q := 63) (v := (-1)) hx d_Co_bit_62 rfl (by decide) ?_
          refine g_icmp_eq (q := 66) (t := 96) hx d_Co_bit_63 rfl rfl Iff.rfl (fun h63 => ?_) (fun h63 => ?_)
          · refine g_iconst (q := 97) (v := nI 0) hx d_Co_bit_96 rfl (by decide) ?_
            refine g_istore (q := 99) (lc' := [(7, _), (6, _), (4, _), (3, _), (0, _), (1, _), (2, _)]) hx d_Co_bit_97 rfl (by decide) rfl ?_
            exact tail _ ((p1.mono (fun a q => by unfold sEn; omega)).sl (Or.inl rfl)) ((zl_k (by omega)).trans p2) (zl_s _ _ _ _) (fun q hq => by rw [zi_l, p1.i (by omega)]; exact e3 q hq) p4 (fun j hj => p5 j hj)
          · exact absurd rfl h63
        · exact absurd h43 (by omega)
