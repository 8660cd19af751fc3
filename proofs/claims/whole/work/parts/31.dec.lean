/-! the decoder at X -/
def pDs (Γ : zG) (P : Nat → Nat → Nat) (X : Nat) : Prop := Γ X = some (0, 1) ∧ Γ (X + 1) = some (1, 58) ∧ Γ (X + 2) = some (1, 255) ∧ P X 0 = X + 1 ∧ P X 2 = X + 2 ∧ 0 < X
abbrev sDe (X : Nat) : Nat → Prop := fun a => a = X ∨ a = X + 1
/-- the row that is read: m bytes -/
def pDr (M : zM) (X m nx : Nat) (by_ : Nat → Nat) : Prop := zi M X 3 = nI m ∧ zi M X 4 = nI nx ∧ (∀ j, j < m → zi M (X + 2) j = nI (by_ j)) ∧ m ≤ 255 ∧ (∀ j, m ≤ j → by_ j = 0) ∧ ∀ j, by_ j < 256
def pDe (M : zM) (X m : Nat) (by_ : Nat → Nat) (s : mDe) : Prop := zl M X 5 = lN s.1 ∧ zl M X 1 = lN s.2.1 ∧ (∀ p, p < 58 → zi M (X + 1) p = nI (s.2.2.1 p)) ∧ pDr M X m s.2.2.2 by_
set_option maxHeartbeats 4000000 in
set_option maxRecDepth 100000 in
theorem c_De_choose (l : Launch) (E : zE) (Γ : zG) (n : Nat) (M : zM) (X v B b : Nat) (hs : pDs Γ M.2.2 X) (hv : zl M X 5 = lN v) (hv6 : v < 2 ^ 62) (hB : B < 2 ^ 62) :
    zCt l E Y_De_choose 0 (0, 0) [.ref X, .long (lN B), .int (nI b)] Γ n M (zPi Γ n (fun r M' => r = nI (if v < B then 0 else 1) ∧ zOm (fun a => a = X) M M' ∧ zl M' X 5 = lN (if v < B then v else v - B) ∧ zl M' X 1 = zl M X 1 ∧ M'.1 = M.1)) := by
  refine zCt.of [(0, .ref X), (1, .long (lN B)), (3, .int (nI b))] (by decide) (Nat.le_of_ble_eq_true rfl) rfl (fun f hfl hx hQ => ?_)
  obtain ⟨hg0, hg1, hg2, hp0, hp2, hX0⟩ := hs
  have hp0 : zr M X 0 = X + 1 := hp0
  have hp2 : zr M X 2 = X + 2 := hp2
  refine g_aload_n (q := 1) hx d_De_choose_0 rfl rfl ?_
  refine g_getl (q := 4) hx d_De_choose_1 rfl fl_De_22 (by assumption) hv ?_
  refine g_lload_n (q := 5) hx d_De_choose_4 rfl rfl ?_
  refine g_lcmp (q := 6) hx d_De_choose_5 rfl ?_
  refine g_if_ge (q := 9) (t := 11) hx d_De_choose_6 rfl rfl (zc_ge (by omega) (by omega)) (fun h6 => ?_) (fun h6 => ?_)
  · refine g_aload_n (q := 12) hx d_De_choose_11 rfl rfl ?_
    refine g_dup (q := 13) hx d_De_choose_12 rfl rfl ?_
    refine g_getl (q := 16) hx d_De_choose_13 rfl fl_De_22 (by assumption) hv ?_
    refine g_lload_n (q := 17) hx d_De_choose_16 rfl rfl ?_
    refine g_lsub (q := 18) hx d_De_choose_17 rfl (lN_sub (by omega)) ?_
    refine g_putl (q := 21) hx d_De_choose_18 rfl fl_De_22 nf_1_5 (by assumption) ?_
    refine g_iconst (q := 22) (v := nI 1) hx d_De_choose_21 rfl (by decide) ?_
    exact g_iret hx d_De_choose_22 rfl hQ ⟨Nat.le_refl _, Nat.le_refl _⟩ ⟨_, rfl, rfl, rfl, by rw [if_neg (by omega)], zOm.rf.sl rfl, by rw [if_neg (by omega), zl_s], zl_k (by omega), rfl⟩
  · refine g_iconst (q := 10) (v := nI 0) hx d_De_choose_9 rfl (by decide) ?_
    exact g_iret hx d_De_choose_10 rfl hQ ⟨Nat.le_refl _, Nat.le_refl _⟩ ⟨_, rfl, rfl, rfl, by rw [if_pos (by omega)], zOm.rf, by rw [if_pos (by omega)]; exact hv, rfl, rfl⟩
set_option maxHeartbeats 4000000 in
set_option maxRecDepth 100000 in
theorem c_De_shiftByte (l : Launch) (E : zE) (Γ : zG) (n : Nat) (M : zM) (X v m nx : Nat) (by_ : Nat → Nat) (hs : pDs Γ M.2.2 X) (hv : zl M X 5 = lN v) (hv6 : v < 2 ^ 50) (hd : pDr M X m nx by_) (hnx : nx < 2 ^ 30) :
    zCt l E Y_De_shiftByte 0 (0, 0) [.ref X] Γ n M (zPv Γ n (fun M' => zOm (fun a => a = X) M M' ∧ zl M' X 5 = lN (v * 256 + by_ nx) ∧ zl M' X 1 = zl M X 1 ∧ zi M' X 4 = nI (nx + 1) ∧ zi M' X 3 = zi M X 3)) := by
  refine zCt.of [(0, .ref X)] (by decide) (Nat.le_of_ble_eq_true rfl) rfl (fun f hfl hx hQ => ?_)
  obtain ⟨hg0, hg1, hg2, hp0, hp2, hX0⟩ := hs
  have hp0 : zr M X 0 = X + 1 := hp0
  have hp2 : zr M X 2 = X + 2 := hp2
  have hm255 := hd.2.2.2.1
  have h0 := hd.2.2.2.2.1
  have h256 := hd.2.2.2.2.2
  refine g_aload_n (q := 1) hx d_De_shiftByte_0 rfl rfl ?_
  refine g_geti (q := 4) hx d_De_shiftByte_1 rfl fl_De_19 (by assumption) hd.2.1 ?_
  refine g_aload_n (q := 5) hx d_De_shiftByte_4 rfl rfl ?_
  refine g_geti (q := 8) hx d_De_shiftByte_5 rfl fl_De_15 (by assumption) hd.1 ?_
  refine g_icmp_ge (q := 11) (t := 23) hx d_De_shiftByte_8 rfl rfl (nI_leI (by omega) (by omega)) (fun h8 => ?_) (fun h8 => ?_)
  · refine g_iconst (q := 24) (v := nI 0) hx d_De_shiftByte_23 rfl (by decide) ?_
    refine g_istore_n (q := 25) (lc' := [(1, _), (0, _)]) hx d_De_shiftByte_24 rfl (by decide) rfl ?_
    refine g_aload_n (q := 26) hx d_De_shiftByte_25 rfl rfl ?_
    refine g_dup (q := 27) hx d_De_shiftByte_26 rfl rfl ?_
    refine g_geti (q := 30) hx d_De_shiftByte_27 rfl fl_De_19 (by assumption) hd.2.1 ?_
    refine g_iconst (q := 31) (v := nI 1) hx d_De_shiftByte_30 rfl (by decide) ?_
    refine g_iadd (q := 32) hx d_De_shiftByte_31 rfl (nI_add _ _) ?_
    refine g_puti (q := 35) hx d_De_shiftByte_32 rfl fl_De_19 nf_1_4 (by assumption) ?_
    refine g_aload_n (q := 36) hx d_De_shiftByte_35 rfl rfl ?_
    refine g_aload_n (q := 37) hx d_De_shiftByte_36 rfl rfl ?_
    refine g_getl (q := 40) hx d_De_shiftByte_37 rfl fl_De_22 (by assumption) hv ?_
    refine g_ldc2 (q := 43) (v := lN 256) hx d_De_shiftByte_40 rfl ct_De_98 ?_
    refine g_lmul (q := 44) hx d_De_shiftByte_43 rfl (lN_mul _ _) ?_
    refine g_iload_n (q := 45) hx d_De_shiftByte_44 rfl rfl ?_
    refine g_i2l (q := 46) hx d_De_shiftByte_45 rfl (nI_l (by first | omega | (have := h256 nx; omega))) ?_
    refine g_ladd (q := 47) hx d_De_shiftByte_46 rfl (lN_add _ _) ?_
    refine g_putl (q := 50) hx d_De_shiftByte_47 rfl fl_De_22 nf_1_5 (by assumption) ?_
    exact g_vret hx d_De_shiftByte_50 rfl hQ ⟨Nat.le_refl _, Nat.le_refl _⟩ ⟨rfl, rfl, rfl, zOm.sl (S := fun a => a = X) (zOm.si (S := fun a => a = X) zOm.rf rfl) rfl, by rw [zl_s]; exact congrArg (fun z => lN (v * 256 + z)) (h0 nx (by omega)).symm, (zl_k (by omega)).trans rfl, by rw [zi_l, zi_s], by rw [zi_l, zi_k (by omega)]⟩
  · refine g_aload_n (q := 12) hx d_De_shiftByte_11 rfl rfl ?_
    refine g_geta (q := 15) hx d_De_shiftByte_12 rfl fl_De_9 (by assumption) (by assumption) (by omega) ?_
    refine g_aload_n (q := 16) hx d_De_shiftByte_15 rfl rfl ?_
    refine g_geti (q := 19) hx d_De_shiftByte_16 rfl fl_De_19 (by assumption) hd.2.1 ?_
    refine g_iald (q := 20) hx d_De_shiftByte_19 rfl (by assumption) rfl (by omega) (by decide) (hd.2.2.1 nx (by omega)) ?_
    refine g_goto (q := 24) hx d_De_shiftByte_20 rfl ?_
    refine g_istore_n (q := 25) (lc' := [(1, _), (0, _)]) hx d_De_shiftByte_24 rfl (by decide) rfl ?_
    refine g_aload_n (q := 26) hx d_De_shiftByte_25 rfl rfl ?_
    refine g_dup (q := 27) hx d_De_shiftByte_26 rfl rfl ?_
    refine g_geti (q := 30) hx d_De_shiftByte_27 rfl fl_De_19 (by assumption) hd.2.1 ?_
    refine g_iconst (q := 31) (v := nI 1) hx d_De_shiftByte_30 rfl (by decide) ?_
    refine g_iadd (q := 32) hx d_De_shiftByte_31 rfl (nI_add _ _) ?_
    refine g_puti (q := 35) hx d_De_shiftByte_32 rfl fl_De_19 nf_1_4 (by assumption) ?_
    refine g_aload_n (q := 36) hx d_De_shiftByte_35 rfl rfl ?_
    refine g_aload_n (q := 37) hx d_De_shiftByte_36 rfl rfl ?_
    refine g_getl (q := 40) hx d_De_shiftByte_37 rfl fl_De_22 (by assumption) hv ?_
    refine g_ldc2 (q := 43) (v := lN 256) hx d_De_shiftByte_40 rfl ct_De_98 ?_
    refine g_lmul (q := 44) hx d_De_shiftByte_43 rfl (lN_mul _ _) ?_
    refine g_iload_n (q := 45) hx d_De_shiftByte_44 rfl rfl ?_
    refine g_i2l (q := 46) hx d_De_shiftByte_45 rfl (nI_l (by first | omega | (have := h256 nx; omega))) ?_
    refine g_ladd (q := 47) hx d_De_shiftByte_46 rfl (lN_add _ _) ?_
    refine g_putl (q := 50) hx d_De_shiftByte_47 rfl fl_De_22 nf_1_5 (by assumption) ?_
    exact g_vret hx d_De_shiftByte_50 rfl hQ ⟨Nat.le_refl _, Nat.le_refl _⟩ ⟨rfl, rfl, rfl, zOm.sl (S := fun a => a = X) (zOm.si (S := fun a => a = X) zOm.rf rfl) rfl, by rw [zl_s], (zl_k (by omega)).trans rfl, by rw [zi_l, zi_s], by rw [zi_l, zi_k (by omega)]⟩
set_option maxHeartbeats 4000000 in
set_option maxRecDepth 100000 in
/-- the decoder's bit -/
theorem c_De_bit (l : Launch) (E : zE) (Γ : zG) (n : Nat) (M : zM) (X p b m : Nat) (x : Int32) (by_ : Nat → Nat) (s : mDe) (hs : pDs Γ M.2.2 X) (he : pDe M X m by_ s) (hi : mDi s) (hnx : s.2.2.2 < 2 ^ 30) (hpx : p < 58 ∧ x = nI p ∨ p = 58 ∧ x = -1) (hb : b < 2) :
    zCt l E Y_Co_bit 1 (0, 0) [.ref X, .int x, .int (nI b)] Γ n M (zPi Γ n (fun v M' => v = nI (mBit s p) ∧ zOm (sDe X) M M' ∧ pDe M' X m by_ (mGet by_ s p))) := by
  refine zCt.of [(0, .ref X), (1, .int x), (2, .int (nI b))] (by decide) (Nat.le_of_ble_eq_true rfl) rfl (fun f hfl hx hQ => ?_)
  obtain ⟨hg0, hg1, hg2, hp0, hp2, hX0⟩ := hs
  have hp0 : zr M X 0 = X + 1 := hp0
  have hp2 : zr M X 2 = X + 2 := hp2
  obtain ⟨e1, e2, e3, e4⟩ := he
  have hp58 : p ≤ 58 := by omega
  obtain ⟨h1, h2, h3, h4⟩ := hi
  have hlk := mLi_any h4 hp58
  have hl58 : s.2.2.1 58 = 1024 := h4.2
  have hrg := mRg1_in (b := mBit s p) h2 h3 hlk
  have hBle := mB_le (rg := s.2.1) hlk.2
  have hbt1 := mBit_lt s p
  have hv1 : mV1 s p < 4294967296 := by unfold mV1; split <;> omega
  have tail : ∀ M1, zOm (sDe X) M M1 → zl M1 X 5 = lN (mV1 s p) → zl M1 X 1 = lN (mRg1 s.2.1 (s.2.2.1 p) (mBit s p)) → (∀ q, q < 58 → zi M1 (X + 1) q = nI (mLn s.2.2.1 p (mBit s p) q)) → pDr M1 X m s.2.2.2 by_ → zGo f E Γ n (0, 0) M1 99 [(7, .int (nI 0)), (6, .int (nI (mBit s p))), (4, .long (lN (mB s.2.1 (s.2.2.1 p)))), (3, .int (nI (s.2.2.1 p))), (0, .ref X), (1, .int x), (2, .int (nI b))] [] := by
    intro M1 t1 t2 t3 t4 t5
    have hp01 : M1.2.2 X 0 = X + 1 := by rw [t1.r]; exact hp0
    have hp21 : M1.2.2 X 2 = X + 2 := by rw [t1.r]; exact hp2
    refine g_iload (q := 101) hx d_Co_bit_99 rfl rfl ?_
    refine g_iconst (q := 102) (v := nI 4) hx d_Co_bit_101 rfl (by decide) ?_
    refine g_icmp_ge (q := 105) (t := 138) hx d_Co_bit_102 rfl rfl (nI_leI (by omega) (by omega)) (fun h102 => ?_) (fun h102 => ?_)
    · exact absurd h102 (by omega)
    · refine g_aload_n (q := 106) hx d_Co_bit_105 rfl rfl ?_
      refine g_getl (q := 109) hx d_Co_bit_106 rfl fl_Co_17D (by assumption) t3 ?_
      refine g_ldc2 (q := 112) (v := lN 16777216) hx d_Co_bit_109 rfl ct_Co_33 ?_
      refine g_lcmp (q := 113) hx d_Co_bit_112 rfl ?_
      refine g_if_ge (q := 116) (t := 138) hx d_Co_bit_113 rfl rfl (zc_ge (by omega) (by omega)) (fun hc0 => ?_) (fun hc0 => ?_)
      · have hc : ¬ mRg1 s.2.1 (s.2.2.1 p) (mBit s p) < 16777216 := by omega
        refine g_iload (q := 140) hx d_Co_bit_138 rfl rfl ?_
        exact g_iret hx d_Co_bit_140 rfl hQ ⟨Nat.le_refl _, Nat.le_refl _⟩ ⟨_, rfl, rfl, rfl, rfl, t1, by unfold pDe mGet; rw [if_neg hc]; exact ⟨t2, t3, t4, t5⟩⟩
      · have hc : mRg1 s.2.1 (s.2.2.1 p) (mBit s p) < 16777216 := by omega
        refine g_aload_n (q := 117) hx d_Co_bit_116 rfl rfl ?_
        refine g_cv (q := 120) (zrunU hx d_Co_bit_117 rfl lk_Co_35D (by assumption) rfl rfl (Nat.le_of_ble_eq_true rfl) (by decide) (by omega) (by omega) (c_De_shiftByte _ E Γ n _ X (mV1 s p) m s.2.2.2 by_ ⟨hg0, hg1, hg2, hp01, hp21, hX0⟩ t2 (by omega) t5 hnx)) rfl (fun M117 p117 => ?_)
        obtain ⟨p1, p2, p3, p4, p5⟩ := p117
        refine g_aload_n (q := 121) hx d_Co_bit_120 rfl rfl ?_
        refine g_dup (q := 122) hx d_Co_bit_121 rfl rfl ?_
        refine g_getl (q := 125) hx d_Co_bit_122 rfl fl_Co_17D (by assumption) (p3.trans t3) ?_
        refine g_ldc2 (q := 128) (v := lN 256) hx d_Co_bit_125 rfl ct_Co_38 ?_
        refine g_lmul (q := 129) hx d_Co_bit_128 rfl (lN_mul _ _) ?_
        refine g_putl (q := 132) hx d_Co_bit_129 rfl fl_Co_17D nf_1_1 (by assumption) ?_
        refine g_iinc (q := 135) (lc' := [(7, _), (6, _), (4, _), (3, _), (0, _), (1, _), (2, _)]) hx d_Co_bit_132 rfl rfl (z_inc _) (by decide) rfl ?_
        refine g_goto (q := 99) hx d_Co_bit_135 rfl ?_
        refine g_iload (q := 101) hx d_Co_bit_99 rfl rfl ?_
        refine g_iconst (q := 102) (v := nI 4) hx d_Co_bit_101 rfl (by decide) ?_
        refine g_icmp_ge (q := 105) (t := 138) hx d_Co_bit_102 rfl rfl (nI_leI (by omega) (by omega)) (fun h102 => ?_) (fun h102 => ?_)
        · exact absurd h102 (by omega)
        · refine g_aload_n (q := 106) hx d_Co_bit_105 rfl rfl ?_
          refine g_getl (q := 109) hx d_Co_bit_106 rfl fl_Co_17D (by assumption) (zl_s _ _ _ _) ?_
          refine g_ldc2 (q := 112) (v := lN 16777216) hx d_Co_bit_109 rfl ct_Co_33 ?_
          refine g_lcmp (q := 113) hx d_Co_bit_112 rfl ?_
          refine g_if_ge (q := 116) (t := 138) hx d_Co_bit_113 rfl rfl (zc_ge (by omega) (by omega)) (fun h113 => ?_) (fun h113 => ?_)
          · refine g_iload (q := 140) hx d_Co_bit_138 rfl rfl ?_
            exact g_iret hx d_Co_bit_140 rfl hQ ⟨Nat.le_refl _, Nat.le_refl _⟩ ⟨_, rfl, rfl, rfl, rfl, (t1.tr (p1.mono (fun a q => Or.inl q))).sl (Or.inl rfl), by
                 unfold pDe mGet; rw [if_pos hc]
                 exact ⟨(zl_k (by omega)).trans p2, zl_s _ _ _ _, fun q hq => by rw [zi_l, p1.i (by omega)]; exact t4 q hq, p5.trans t5.1, p4, fun j hj => by rw [zi_l, p1.i (by omega)]; exact t5.2.2.1 j hj, t5.2.2.2⟩⟩
          · exact absurd (by omega) h113
  rcases hpx with ⟨hp, rfl⟩ | ⟨rfl, rfl⟩
  · have hxn : ¬ nI p = -1 := fun q => by
      have h0 : (0 : Int32) ≤ nI p := nI_pos' (by omega)
      rw [q] at h0
      exact absurd h0 (by decide)
    refine g_iload_n (q := 1) hx d_Co_bit_0 rfl rfl ?_
    refine g_iconst (q := 2) (v := (-1)) hx d_Co_bit_1 rfl (by decide) ?_
    refine g_icmp_ne (q := 5) (t := 11) hx d_Co_bit_2 rfl rfl (Iff.intro (fun _ => trivial) (fun _ => hxn)) (fun h2 => ?_) (fun h2 => ?_)
    · refine g_aload_n (q := 12) hx d_Co_bit_11 rfl rfl ?_
      refine g_geta (q := 15) hx d_Co_bit_12 rfl fl_Co_9D (by assumption) (by assumption) (by omega) ?_
      refine g_iload_n (q := 16) hx d_Co_bit_15 rfl rfl ?_
      refine g_iald (q := 17) hx d_Co_bit_16 rfl (by assumption) rfl (by omega) (by decide) (e3 p hp) ?_
      refine g_istore_n (q := 18) (lc' := [(3, _), (0, _), (1, _), (2, _)]) hx d_Co_bit_17 rfl (by decide) rfl ?_
      refine g_aload_n (q := 19) hx d_Co_bit_18 rfl rfl ?_
      refine g_getl (q := 22) hx d_Co_bit_19 rfl fl_Co_17D (by assumption) e2 ?_
      refine g_ldc2 (q := 25) (v := lN 2048) hx d_Co_bit_22 rfl ct_Co_27 ?_
      refine g_ldiv (q := 26) hx d_Co_bit_25 rfl (zl_ne0 (by omega) (by omega)) (pk_lDiv (by omega) (by omega) (by omega)) ?_
      refine g_iload_n (q := 27) hx d_Co_bit_26 rfl rfl ?_
      refine g_i2l (q := 28) hx d_Co_bit_27 rfl (nI_l (by omega)) ?_
      refine g_lmul (q := 29) hx d_Co_bit_28 rfl (lN_mul _ _) ?_
      refine g_lstore (q := 31) (lc' := [(4, _), (3, _), (0, _), (1, _), (2, _)]) hx d_Co_bit_29 rfl (by decide) rfl ?_
      refine g_aload_n (q := 32) hx d_Co_bit_31 rfl rfl ?_
      refine g_lload (q := 34) hx d_Co_bit_32 rfl rfl ?_
      refine g_iload_n (q := 35) hx d_Co_bit_34 rfl rfl ?_
      refine g_ci (q := 38) (zrunU hx d_Co_bit_35 rfl lk_Co_29D (by assumption) rfl rfl (Nat.le_of_ble_eq_true rfl) (by decide) (by omega) (by omega) (c_De_choose _ E Γ n _ X s.1 (mB s.2.1 (s.2.2.1 p)) b ⟨hg0, hg1, hg2, hp0, hp2, hX0⟩ e1 (by omega) (by omega))) rfl (fun r35 M35 p35 => ?_)
      obtain ⟨rfl, p1, p2, p3, p4⟩ := p35
      have hp01 : zr M35 X 0 = X + 1 := by
        show M35.2.2 X 0 = X + 1
        rw [p1.r]; exact hp0
      have hzi : ∀ a j, zi M35 a j = zi M a j := fun a j => by
        show M35.1 a j = M.1 a j
        rw [p4]
      rw [show (if s.1 < mB s.2.1 (s.2.2.1 p) then 0 else 1) = mBit s p from rfl]
      have hbt := mBit_lt s p
      have p2 : zl M35 X 5 = lN (mV1 s p) := p2
      generalize mBit s p = bt at *
      obtain rfl | rfl : bt = 0 ∨ bt = 1 := (by omega)
      · refine g_istore (q := 40) (lc' := [(6, _), (4, _), (3, _), (0, _), (1, _), (2, _)]) hx d_Co_bit_38 rfl (by decide) rfl ?_
        refine g_aload_n (q := 41) hx d_Co_bit_40 rfl rfl ?_
        refine g_iload (q := 43) hx d_Co_bit_41 rfl rfl ?_
        refine g_if_ne (q := 46) (t := 51) hx d_Co_bit_43 rfl rfl (zb_ne0 (by omega)) (fun h43 => ?_) (fun h43 => ?_)
        · exact absurd h43 (by omega)
        · refine g_lload (q := 48) hx d_Co_bit_46 rfl rfl ?_
          refine g_goto (q := 58) hx d_Co_bit_48 rfl ?_
          refine g_putl (q := 61) hx d_Co_bit_58 rfl fl_Co_17D nf_1_1 (by assumption) ?_
          refine g_iload_n (q := 62) hx d_Co_bit_61 rfl rfl ?_
          refine g_iconst (q := 63) (v := (-1)) hx d_Co_bit_62 rfl (by decide) ?_
          refine g_icmp_eq (q := 66) (t := 96) hx d_Co_bit_63 rfl rfl (Iff.intro (fun q => hxn q) (fun q => False.elim q)) (fun h63 => ?_) (fun h63 => ?_)
          · exact h63.elim
          · refine g_aload_n (q := 67) hx d_Co_bit_66 rfl rfl ?_
            refine g_geta (q := 70) hx d_Co_bit_67 rfl fl_Co_9D (by assumption) hp01 (by omega) ?_
            refine g_iload_n (q := 71) hx d_Co_bit_70 rfl rfl ?_
            refine g_iload (q := 73) hx d_Co_bit_71 rfl rfl ?_
            refine g_if_ne (q := 76) (t := 89) hx d_Co_bit_73 rfl rfl (zb_ne0 (by omega)) (fun h73 => ?_) (fun h73 => ?_)
            · exact absurd h73 (by omega)
            · refine g_iload_n (q := 77) hx d_Co_bit_76 rfl rfl ?_
              refine g_sipush (q := 80) (v := nI 2048) hx d_Co_bit_77 rfl (by decide) ?_
              refine g_iload_n (q := 81) hx d_Co_bit_80 rfl rfl ?_
              refine g_isub (q := 82) hx d_Co_bit_81 rfl (pk_sub (by omega)) ?_
              refine g_bipush (q := 84) (v := nI 16) hx d_Co_bit_82 rfl (by decide) ?_
              refine g_idiv (q := 85) hx d_Co_bit_84 rfl (nI_ne0 (by omega) (by omega)) (pk_div (by omega) (by omega) (by omega)) ?_
              refine g_iadd (q := 86) hx d_Co_bit_85 rfl (nI_add _ _) ?_
              refine g_goto (q := 95) hx d_Co_bit_86 rfl ?_
              refine g_iast (q := 96) hx d_Co_bit_95 rfl (by assumption) rfl (by omega) (by decide) ?_
              refine g_iconst (q := 97) (v := nI 0) hx d_Co_bit_96 rfl (by decide) ?_
              refine g_istore (q := 99) (lc' := [(7, _), (6, _), (4, _), (3, _), (0, _), (1, _), (2, _)]) hx d_Co_bit_97 rfl (by decide) rfl ?_
              refine tail _ (((p1.mono (fun a q => Or.inl q)).sl (Or.inl rfl)).si (Or.inr rfl)) ((zl_k (by omega)).trans p2) (zl_s _ _ _ _) (fun q hq => ?_) ⟨(zi_a (by omega)).trans ((hzi _ _).trans e4.1), (zi_a (by omega)).trans ((hzi _ _).trans e4.2.1), fun j hj => (zi_a (by omega)).trans ((hzi _ _).trans (e4.2.2.1 j hj)), e4.2.2.2⟩
              unfold mLn
              rw [if_neg (by omega)]
              by_cases e : q = p
              · subst e; rw [zi_s, mUp_s]; rfl
              · rw [zi_k e, mUp_n e, zi_l, hzi]; exact e3 q hq
      · refine g_istore (q := 40) (lc' := [(6, _), (4, _), (3, _), (0, _), (1, _), (2, _)]) hx d_Co_bit_38 rfl (by decide) rfl ?_
        refine g_aload_n (q := 41) hx d_Co_bit_40 rfl rfl ?_
        refine g_iload (q := 43) hx d_Co_bit_41 rfl rfl ?_
        refine g_if_ne (q := 46) (t := 51) hx d_Co_bit_43 rfl rfl (zb_ne0 (by omega)) (fun h43 => ?_) (fun h43 => ?_)
        · refine g_aload_n (q := 52) hx d_Co_bit_51 rfl rfl ?_
          refine g_getl (q := 55) hx d_Co_bit_52 rfl fl_Co_17D (by assumption) (p3.trans e2) ?_
          refine g_lload (q := 57) hx d_Co_bit_55 rfl rfl ?_
          refine g_lsub (q := 58) hx d_Co_bit_57 rfl (lN_sub (by have h7 := hBle; unfold mB at h7; omega)) ?_
          refine g_putl (q := 61) hx d_Co_bit_58 rfl fl_Co_17D nf_1_1 (by assumption) ?_
          refine g_iload_n (q := 62) hx d_Co_bit_61 rfl rfl ?_
          refine g_iconst (q := 63) (v := (-1)) hx d_Co_bit_62 rfl (by decide) ?_
          refine g_icmp_eq (q := 66) (t := 96) hx d_Co_bit_63 rfl rfl (Iff.intro (fun q => hxn q) (fun q => False.elim q)) (fun h63 => ?_) (fun h63 => ?_)
          · exact h63.elim
          · refine g_aload_n (q := 67) hx d_Co_bit_66 rfl rfl ?_
            refine g_geta (q := 70) hx d_Co_bit_67 rfl fl_Co_9D (by assumption) hp01 (by omega) ?_
            refine g_iload_n (q := 71) hx d_Co_bit_70 rfl rfl ?_
            refine g_iload (q := 73) hx d_Co_bit_71 rfl rfl ?_
            refine g_if_ne (q := 76) (t := 89) hx d_Co_bit_73 rfl rfl (zb_ne0 (by omega)) (fun h73 => ?_) (fun h73 => ?_)
            · refine g_iload_n (q := 90) hx d_Co_bit_89 rfl rfl ?_
              refine g_iload_n (q := 91) hx d_Co_bit_90 rfl rfl ?_
              refine g_bipush (q := 93) (v := nI 16) hx d_Co_bit_91 rfl (by decide) ?_
              refine g_idiv (q := 94) hx d_Co_bit_93 rfl (nI_ne0 (by omega) (by omega)) (pk_div (by omega) (by omega) (by omega)) ?_
              refine g_isub (q := 95) hx d_Co_bit_94 rfl (pk_sub (by omega)) ?_
              refine g_iast (q := 96) hx d_Co_bit_95 rfl (by assumption) rfl (by omega) (by decide) ?_
              refine g_iconst (q := 97) (v := nI 0) hx d_Co_bit_96 rfl (by decide) ?_
              refine g_istore (q := 99) (lc' := [(7, _), (6, _), (4, _), (3, _), (0, _), (1, _), (2, _)]) hx d_Co_bit_97 rfl (by decide) rfl ?_
              refine tail _ (((p1.mono (fun a q => Or.inl q)).sl (Or.inl rfl)).si (Or.inr rfl)) ((zl_k (by omega)).trans p2) (zl_s _ _ _ _) (fun q hq => ?_) ⟨(zi_a (by omega)).trans ((hzi _ _).trans e4.1), (zi_a (by omega)).trans ((hzi _ _).trans e4.2.1), fun j hj => (zi_a (by omega)).trans ((hzi _ _).trans (e4.2.2.1 j hj)), e4.2.2.2⟩
              unfold mLn
              rw [if_neg (by omega)]
              by_cases e : q = p
              · subst e; rw [zi_s, mUp_s]; rfl
              · rw [zi_k e, mUp_n e, zi_l, hzi]; exact e3 q hq
            · exact absurd h73 (by omega)
        · exact absurd h43 (by omega)
    · exact absurd trivial h2
  · refine g_iload_n (q := 1) hx d_Co_bit_0 rfl rfl ?_
    refine g_iconst (q := 2) (v := (-1)) hx d_Co_bit_1 rfl (by decide) ?_
    refine g_icmp_ne (q := 5) (t := 11) hx d_Co_bit_2 rfl rfl Iff.rfl (fun h2 => ?_) (fun h2 => ?_)
    · exact absurd rfl h2
    · refine g_sipush (q := 8) (v := nI 1024) hx d_Co_bit_5 rfl (by decide) ?_
      refine g_goto (q := 17) hx d_Co_bit_8 rfl ?_
      rw [show nI 1024 = nI (s.2.2.1 58) from congrArg nI hl58.symm]
      refine g_istore_n (q := 18) (lc' := [(3, _), (0, _), (1, _), (2, _)]) hx d_Co_bit_17 rfl (by decide) rfl ?_
      refine g_aload_n (q := 19) hx d_Co_bit_18 rfl rfl ?_
      refine g_getl (q := 22) hx d_Co_bit_19 rfl fl_Co_17D (by assumption) e2 ?_
      refine g_ldc2 (q := 25) (v := lN 2048) hx d_Co_bit_22 rfl ct_Co_27 ?_
      refine g_ldiv (q := 26) hx d_Co_bit_25 rfl (zl_ne0 (by omega) (by omega)) (pk_lDiv (by omega) (by omega) (by omega)) ?_
      refine g_iload_n (q := 27) hx d_Co_bit_26 rfl rfl ?_
      refine g_i2l (q := 28) hx d_Co_bit_27 rfl (nI_l (by omega)) ?_
      refine g_lmul (q := 29) hx d_Co_bit_28 rfl (lN_mul _ _) ?_
      refine g_lstore (q := 31) (lc' := [(4, _), (3, _), (0, _), (1, _), (2, _)]) hx d_Co_bit_29 rfl (by decide) rfl ?_
      refine g_aload_n (q := 32) hx d_Co_bit_31 rfl rfl ?_
      refine g_lload (q := 34) hx d_Co_bit_32 rfl rfl ?_
      refine g_iload_n (q := 35) hx d_Co_bit_34 rfl rfl ?_
      refine g_ci (q := 38) (zrunU hx d_Co_bit_35 rfl lk_Co_29D (by assumption) rfl rfl (Nat.le_of_ble_eq_true rfl) (by decide) (by omega) (by omega) (c_De_choose _ E Γ n _ X s.1 (mB s.2.1 (s.2.2.1 58)) b ⟨hg0, hg1, hg2, hp0, hp2, hX0⟩ e1 (by omega) (by omega))) rfl (fun r35 M35 p35 => ?_)
      obtain ⟨rfl, p1, p2, p3, p4⟩ := p35
      have hp01 : zr M35 X 0 = X + 1 := by
        show M35.2.2 X 0 = X + 1
        rw [p1.r]; exact hp0
      have hzi : ∀ a j, zi M35 a j = zi M a j := fun a j => by
        show M35.1 a j = M.1 a j
        rw [p4]
      rw [show (if s.1 < mB s.2.1 (s.2.2.1 58) then 0 else 1) = mBit s 58 from rfl]
      have hbt := mBit_lt s 58
      have p2 : zl M35 X 5 = lN (mV1 s 58) := p2
      generalize mBit s 58 = bt at *
      obtain rfl | rfl : bt = 0 ∨ bt = 1 := (by omega)
      · refine g_istore (q := 40) (lc' := [(6, _), (4, _), (3, _), (0, _), (1, _), (2, _)]) hx d_Co_bit_38 rfl (by decide) rfl ?_
        refine g_aload_n (q := 41) hx d_Co_bit_40 rfl rfl ?_
        refine g_iload (q := 43) hx d_Co_bit_41 rfl rfl ?_
        refine g_if_ne (q := 46) (t := 51) hx d_Co_bit_43 rfl rfl (zb_ne0 (by omega)) (fun h43 => ?_) (fun h43 => ?_)
        · exact absurd h43 (by omega)
        · refine g_lload (q := 48) hx d_Co_bit_46 rfl rfl ?_
          refine g_goto (q := 58) hx d_Co_bit_48 rfl ?_
          refine g_putl (q := 61) hx d_Co_bit_58 rfl fl_Co_17D nf_1_1 (by assumption) ?_
          refine g_iload_n (q := 62) hx d_Co_bit_61 rfl rfl ?_
          refine g_iconst (q := 63) (v := (-1)) hx d_Co_bit_62 rfl (by decide) ?_
          refine g_icmp_eq (q := 66) (t := 96) hx d_Co_bit_63 rfl rfl Iff.rfl (fun h63 => ?_) (fun h63 => ?_)
          · refine g_iconst (q := 97) (v := nI 0) hx d_Co_bit_96 rfl (by decide) ?_
            refine g_istore (q := 99) (lc' := [(7, _), (6, _), (4, _), (3, _), (0, _), (1, _), (2, _)]) hx d_Co_bit_97 rfl (by decide) rfl ?_
            exact tail _ ((p1.mono (fun a q => Or.inl q)).sl (Or.inl rfl)) ((zl_k (by omega)).trans p2) (zl_s _ _ _ _) (fun q hq => by rw [zi_l, hzi]; exact e3 q hq) ⟨(hzi _ _).trans e4.1, (hzi _ _).trans e4.2.1, fun j hj => (hzi _ _).trans (e4.2.2.1 j hj), e4.2.2.2⟩
          · exact absurd rfl h63
      · refine g_istore (q := 40) (lc' := [(6, _), (4, _), (3, _), (0, _), (1, _), (2, _)]) hx d_Co_bit_38 rfl (by decide) rfl ?_
        refine g_aload_n (q := 41) hx d_Co_bit_40 rfl rfl ?_
        refine g_iload (q := 43) hx d_Co_bit_41 rfl rfl ?_
        refine g_if_ne (q := 46) (t := 51) hx d_Co_bit_43 rfl rfl (zb_ne0 (by omega)) (fun h43 => ?_) (fun h43 => ?_)
        · refine g_aload_n (q := 52) hx d_Co_bit_51 rfl rfl ?_
          refine g_getl (q := 55) hx d_Co_bit_52 rfl fl_Co_17D (by assumption) (p3.trans e2) ?_
          refine g_lload (q := 57) hx d_Co_bit_55 rfl rfl ?_
          refine g_lsub (q := 58) hx d_Co_bit_57 rfl (lN_sub (by have h7 := hBle; unfold mB at h7; omega)) ?_
          refine g_putl (q := 61) hx d_Co_bit_58 rfl fl_Co_17D nf_1_1 (by assumption) ?_
          refine g_iload_n (q := 62) hx d_Co_bit_61 rfl rfl ?_
          refine g_iconst (q := 63) (v := (-1)) hx d_Co_bit_62 rfl (by decide) ?_
          refine g_icmp_eq (q := 66) (t := 96) hx d_Co_bit_63 rfl rfl Iff.rfl (fun h63 => ?_) (fun h63 => ?_)
          · refine g_iconst (q := 97) (v := nI 0) hx d_Co_bit_96 rfl (by decide) ?_
            refine g_istore (q := 99) (lc' := [(7, _), (6, _), (4, _), (3, _), (0, _), (1, _), (2, _)]) hx d_Co_bit_97 rfl (by decide) rfl ?_
            exact tail _ ((p1.mono (fun a q => Or.inl q)).sl (Or.inl rfl)) ((zl_k (by omega)).trans p2) (zl_s _ _ _ _) (fun q hq => by rw [zi_l, hzi]; exact e3 q hq) ⟨(hzi _ _).trans e4.1, (hzi _ _).trans e4.2.1, fun j hj => (hzi _ _).trans (e4.2.2.1 j hj), e4.2.2.2⟩
          · exact absurd rfl h63
        · exact absurd h43 (by omega)
