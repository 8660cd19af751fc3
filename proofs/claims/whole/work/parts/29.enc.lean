/-! memory with longs that change -/
theorem zl_s (M : zM) (a k : Nat) (v : Int64) : zl (zsl M a k v) a k = v := by rw [zl_si, if_pos ⟨rfl, rfl⟩]
theorem zl_k {M : zM} {a k j : Nat} {v : Int64} (h : j ≠ k) : zl (zsl M a k v) a j = zl M a j := by rw [zl_si, if_neg (fun q => h q.2)]
theorem zl_b {M : zM} {a k b : Nat} {v : Int64} (h : b ≠ a) : (zsl M a k v).2.1 b = M.2.1 b := va_up_ne _ _ h
theorem zi_l (M : zM) (a k : Nat) (v : Int64) (b j : Nat) : zi (zsl M a k v) b j = zi M b j := rfl
theorem zl_i (M : zM) (a k : Nat) (v : Int32) (b j : Nat) : zl (zsi M a k v) b j = zl M b j := rfl
/-- ints and longs have changed at the addresses of S alone -/
def zOm (S : Nat → Prop) (M M' : zM) : Prop := M'.2.2 = M.2.2 ∧ ∀ a, ¬ S a → M'.1 a = M.1 a ∧ M'.2.1 a = M.2.1 a
theorem zOm.rf {S : Nat → Prop} {M : zM} : zOm S M M := ⟨rfl, fun _ _ => ⟨rfl, rfl⟩⟩
theorem zOm.i {S : Nat → Prop} {M M' : zM} (h : zOm S M M') {a : Nat} (ha : ¬ S a) (j : Nat) : zi M' a j = zi M a j := by
  show M'.1 a j = M.1 a j
  rw [(h.2 a ha).1]
theorem zOm.r {S : Nat → Prop} {M M' : zM} (h : zOm S M M') : M'.2.2 = M.2.2 := h.1
theorem zOm.si {S : Nat → Prop} {M M' : zM} (h : zOm S M M') {a k : Nat} {v : Int32} (ha : S a) : zOm S M (zsi M' a k v) := ⟨h.1, fun b hb => ⟨(zi_b (fun e => hb (by rw [e]; exact ha))).trans (h.2 b hb).1, (h.2 b hb).2⟩⟩
theorem zOm.sl {S : Nat → Prop} {M M' : zM} (h : zOm S M M') {a k : Nat} {v : Int64} (ha : S a) : zOm S M (zsl M' a k v) := ⟨h.1, fun b hb => ⟨(h.2 b hb).1, (zl_b (fun e => hb (by rw [e]; exact ha))).trans (h.2 b hb).2⟩⟩
theorem zOm.tr {S : Nat → Prop} {M M' M'' : zM} (h : zOm S M M') (h' : zOm S M' M'') : zOm S M M'' := ⟨h'.1.trans h.1, fun b hb => ⟨(h'.2 b hb).1.trans (h.2 b hb).1, (h'.2 b hb).2.trans (h.2 b hb).2⟩⟩
theorem zOm.mono {S S' : Nat → Prop} {M M' : zM} (h : zOm S M M') (hs : ∀ a, S a → S' a) : zOm S' M M' := ⟨h.1, fun b hb => h.2 b (fun q => hb (hs b q))⟩
theorem zOn.om {S : Nat → Prop} {M M' : zM} (h : zOn S M M') : zOm S M M' := ⟨h.r, fun b hb => ⟨h.2 b hb, by rw [h.l]⟩⟩
/-! the encoder at X -/
def pEs (Γ : zG) (P : Nat → Nat → Nat) (X : Nat) : Prop := Γ X = some (0, 2) ∧ Γ (X + 1) = some (1, 58) ∧ Γ (X + 2) = some (1, 260) ∧ P X 0 = X + 1 ∧ P X 2 = X + 2 ∧ 0 < X
abbrev sEn (X : Nat) : Nat → Prop := fun a => a = X ∨ a = X + 1 ∨ a = X + 2
/-- the row of the block: r bytes -/
def pEr (M : zM) (X r : Nat) (row : Nat → Nat) : Prop := zi M X 3 = nI (r + 3) ∧ ∀ j, j < r → zi M (X + 2) (j + 3) = nI (row j)
def pEn (M : zM) (X : Nat) (s : mEn) : Prop := zl M X 4 = lN s.1 ∧ zl M X 1 = lN s.2.1 ∧ (∀ p, p < 58 → zi M (X + 1) p = nI (s.2.2.1 p)) ∧ pEr M X s.2.2.2.1 s.2.2.2.2
set_option maxHeartbeats 4000000 in
set_option maxRecDepth 100000 in
theorem c_En_choose (l : Launch) (E : zE) (Γ : zG) (n : Nat) (M : zM) (X low B b r L1 : Nat) (row : Nat → Nat) (hs : pEs Γ M.2.2 X) (hlow : zl M X 4 = lN low) (hlB : low + B < 2 ^ 62) (hb : b < 2) (hrw : pEr M X r row) (hr : r ≤ 250) (h256 : ∀ j, j < r → row j < 256) (hL1 : L1 = if b = 0 then low else low + B) :
    zCt l E Y_En_choose 0 (0, 0) [.ref X, .long (lN B), .int (nI b)] Γ n M (zPi Γ n (fun v M' => v = nI b ∧ zOm (fun a => a = X ∨ a = X + 2) M M' ∧ zl M' X 4 = lN (if 4294967296 ≤ L1 then L1 - 4294967296 else L1) ∧ zl M' X 1 = zl M X 1 ∧ pEr M' X r (if 4294967296 ≤ L1 then mCar r row else row) ∧ ∀ j, j < 3 → zi M' (X + 2) j = zi M (X + 2) j)) := by
  refine zCt.of [(0, .ref X), (1, .long (lN B)), (3, .int (nI b))] (by decide) (Nat.le_of_ble_eq_true rfl) rfl (fun f hfl hx hQ => ?_)
  obtain ⟨hg0, hg1, hg2, hp0, hp2, hX0⟩ := hs
  have hp0 : zr M X 0 = X + 1 := hp0
  have hp2 : zr M X 2 = X + 2 := hp2
  have hL62 : L1 < 2 ^ 62 := by rw [hL1]; split <;> omega
  have loop : 4294967296 ≤ L1 → ∀ (m : Nat) (M1 : zM), ∀ (row1 : Nat → Nat), m ≤ r → (zOm (fun a => a = X ∨ a = X + 2) M M1 ∧ zl M1 X 4 = lN (L1 - 4294967296) ∧ zl M1 X 1 = zl M X 1 ∧ pEr M1 X r row1 ∧ (∀ j, j < 3 → zi M1 (X + 2) j = zi M (X + 2) j) ∧ mCar m row1 = mCar r row ∧ ∀ j, j < r → row1 j < 256) → zGo f E Γ n (0, 0) M1 46 [(4, .int (nI (m + 2))), (0, .ref X), (1, .long (lN B)), (3, .int (nI b))] [] := by
    intro hL
    refine z_lp (fun m => m) _ ?_
    intro m M1 ih row1 hm hI
    obtain ⟨i1, i2, i3, i4, i5, i6, i7⟩ := hI
    have hp21 : zr M1 X 2 = X + 2 := by
      show M1.2.2 X 2 = X + 2
      rw [i1.r]; exact hp2
    refine g_iload (q := 48) hx d_En_choose_46 rfl rfl ?_
    refine g_iconst (q := 49) (v := nI 3) hx d_En_choose_48 rfl (by decide) ?_
    refine g_icmp_lt (q := 52) (t := 79) hx d_En_choose_49 rfl rfl (nI_ltI (by omega) (by omega)) (fun h49 => ?_) (fun h49 => ?_)
    · obtain rfl : m = 0 := (by omega)
      refine g_iload (q := 81) hx d_En_choose_79 rfl rfl ?_
      refine g_iconst (q := 82) (v := nI 3) hx d_En_choose_81 rfl (by decide) ?_
      refine g_icmp_lt (q := 85) (t := 96) hx d_En_choose_82 rfl rfl (nI_ltI (by omega) (by omega)) (fun h82 => ?_) (fun h82 => ?_)
      · refine g_iload_n (q := 97) hx d_En_choose_96 rfl rfl ?_
        exact g_iret hx d_En_choose_97 rfl hQ ⟨Nat.le_refl _, Nat.le_refl _⟩ ⟨_, rfl, rfl, rfl, rfl, i1, by rw [if_pos hL]; exact i2, i3, by rw [if_pos hL, ← i6]; exact i4, i5⟩
      · exact absurd (by omega) h82
    · obtain ⟨m, rfl⟩ : ∃ j, m = j + 1 := ⟨m - 1, by omega⟩
      have hrm := i4.2 m (by omega)
      have h2m := i7 m (by omega)
      refine g_aload_n (q := 53) hx d_En_choose_52 rfl rfl ?_
      refine g_geta (q := 56) hx d_En_choose_53 rfl fl_En_9 (by assumption) hp21 (by omega) ?_
      refine g_iload (q := 58) hx d_En_choose_56 rfl rfl ?_
      refine g_iald (q := 59) hx d_En_choose_58 rfl (by assumption) rfl (by omega) (by decide) hrm ?_
      refine g_sipush (q := 62) (v := nI 255) hx d_En_choose_59 rfl (by decide) ?_
      refine g_icmp_ne (q := 65) (t := 79) hx d_En_choose_62 rfl rfl (not_congr (nI_eq (by omega) (by omega))) (fun h62 => ?_) (fun h62 => ?_)
      · have hne : ¬ row1 m = 255 := h62
        refine g_iload (q := 81) hx d_En_choose_79 rfl rfl ?_
        refine g_iconst (q := 82) (v := nI 3) hx d_En_choose_81 rfl (by decide) ?_
        refine g_icmp_lt (q := 85) (t := 96) hx d_En_choose_82 rfl rfl (nI_ltI (by omega) (by omega)) (fun h82 => ?_) (fun h82 => ?_)
        · exact absurd h82 (by omega)
        · refine g_aload_n (q := 86) hx d_En_choose_85 rfl rfl ?_
          refine g_geta (q := 89) hx d_En_choose_86 rfl fl_En_9 (by assumption) hp21 (by omega) ?_
          refine g_iload (q := 91) hx d_En_choose_89 rfl rfl ?_
          refine g_dup2 (q := 92) hx d_En_choose_91 rfl rfl rfl ?_
          refine g_iald (q := 93) hx d_En_choose_92 rfl (by assumption) rfl (by omega) (by decide) hrm ?_
          refine g_iconst (q := 94) (v := nI 1) hx d_En_choose_93 rfl (by decide) ?_
          refine g_iadd (q := 95) hx d_En_choose_94 rfl (nI_add _ _) ?_
          refine g_iast (q := 96) hx d_En_choose_95 rfl (by assumption) rfl (by omega) (by decide) ?_
          refine g_iload_n (q := 97) hx d_En_choose_96 rfl rfl ?_
          exact g_iret hx d_En_choose_97 rfl hQ ⟨Nat.le_refl _, Nat.le_refl _⟩ ⟨_, rfl, rfl, rfl, rfl, i1.si (Or.inr rfl), by rw [if_pos hL]; exact i2, i3, by
              rw [if_pos hL, ← i6]
              simp only [mCar, if_neg hne]
              refine ⟨by rw [zi_a (by omega)]; exact i4.1, fun j hj => ?_⟩
              by_cases e : j = m
              · subst e; rw [zi_s, mUp_s]
              · rw [zi_k (by omega), mUp_n e]; exact i4.2 j hj, fun j hj => by rw [zi_k (by omega)]; exact i5 j hj⟩
      · refine g_aload_n (q := 66) hx d_En_choose_65 rfl rfl ?_
        refine g_geta (q := 69) hx d_En_choose_66 rfl fl_En_9 (by assumption) hp21 (by omega) ?_
        refine g_iload (q := 71) hx d_En_choose_69 rfl rfl ?_
        refine g_iconst (q := 72) (v := nI 0) hx d_En_choose_71 rfl (by decide) ?_
        refine g_iast (q := 73) hx d_En_choose_72 rfl (by assumption) rfl (by omega) (by decide) ?_
        refine g_iinc (q := 76) (lc' := [(4, _), (0, _), (1, _), (3, _)]) hx d_En_choose_73 rfl rfl (z_dec (by omega)) (by decide) rfl ?_
        refine g_goto (q := 46) hx d_En_choose_76 rfl ?_
        have he : row1 m = 255 := by omega
        refine ih m _ (by omega) (mUp row1 m 0) (by omega) ⟨i1.si (Or.inr rfl), i2, i3, ⟨by rw [zi_a (by omega)]; exact i4.1, fun j hj => ?_⟩, fun j hj => by rw [zi_k (by omega)]; exact i5 j hj, ?_, fun j hj => ?_⟩
        · by_cases e : j = m
          · subst e; rw [zi_s, mUp_s]
          · rw [zi_k (by omega), mUp_n e]; exact i4.2 j hj
        · rw [← i6]; simp only [mCar, if_pos he]
        · by_cases e : j = m
          · subst e; rw [mUp_s]; omega
          · rw [mUp_n e]; exact i7 j hj
  have tail : ∀ M1, zOm (fun a => a = X ∨ a = X + 2) M M1 → zl M1 X 1 = zl M X 1 → pEr M1 X r row → zi M1 X 3 = nI (r + 3) → zl M1 X 4 = lN L1 → (∀ j, j < 3 → zi M1 (X + 2) j = zi M (X + 2) j) → zGo f E Γ n (0, 0) M1 15 [(0, .ref X), (1, .long (lN B)), (3, .int (nI b))] [] := by
    intro M1 t1 t2 t5 t3 t4 t6
    refine g_aload_n (q := 16) hx d_En_choose_15 rfl rfl ?_
    refine g_getl (q := 19) hx d_En_choose_16 rfl fl_En_19 (by assumption) t4 ?_
    refine g_ldc2 (q := 22) (v := lN 4294967296) hx d_En_choose_19 rfl ct_En_65 ?_
    refine g_lcmp (q := 23) hx d_En_choose_22 rfl ?_
    refine g_if_lt (q := 26) (t := 96) hx d_En_choose_23 rfl rfl (zc_lt (by omega) (by omega)) (fun h23 => ?_) (fun h23 => ?_)
    · refine g_iload_n (q := 97) hx d_En_choose_96 rfl rfl ?_
      exact g_iret hx d_En_choose_97 rfl hQ ⟨Nat.le_refl _, Nat.le_refl _⟩ ⟨_, rfl, rfl, rfl, rfl, t1, by rw [if_neg (by omega)]; exact t4, t2, by rw [if_neg (by omega)]; exact t5, t6⟩
    · refine g_aload_n (q := 27) hx d_En_choose_26 rfl rfl ?_
      refine g_dup (q := 28) hx d_En_choose_27 rfl rfl ?_
      refine g_getl (q := 31) hx d_En_choose_28 rfl fl_En_19 (by assumption) t4 ?_
      refine g_ldc2 (q := 34) (v := lN 4294967296) hx d_En_choose_31 rfl ct_En_65 ?_
      refine g_lsub (q := 35) hx d_En_choose_34 rfl (lN_sub (by omega)) ?_
      refine g_putl (q := 38) hx d_En_choose_35 rfl fl_En_19 nf_2_4 (by assumption) ?_
      refine g_aload_n (q := 39) hx d_En_choose_38 rfl rfl ?_
      refine g_geti (q := 42) hx d_En_choose_39 rfl fl_En_15 (by assumption) t3 ?_
      refine g_iconst (q := 43) (v := nI 1) hx d_En_choose_42 rfl (by decide) ?_
      refine g_isub (q := 44) hx d_En_choose_43 rfl (pk_sub (by omega)) ?_
      refine g_istore (q := 46) (lc' := [(4, _), (0, _), (1, _), (3, _)]) hx d_En_choose_44 rfl (by decide) rfl ?_
      exact loop (by omega) r _ row (Nat.le_refl _) ⟨t1.sl (Or.inl rfl), zl_s _ _ _ _, by rw [zl_k (by omega)]; exact t2, t5, t6, rfl, h256⟩
  refine g_iload_n (q := 1) hx d_En_choose_0 rfl rfl ?_
  refine g_iconst (q := 2) (v := nI 1) hx d_En_choose_1 rfl (by decide) ?_
  refine g_icmp_ne (q := 5) (t := 15) hx d_En_choose_2 rfl rfl (not_congr (nI_eq (by omega) (by omega))) (fun hb1 => ?_) (fun hb1 => ?_)
  · obtain rfl : L1 = low := by rw [hL1, if_pos (by omega)]
    exact tail M zOm.rf rfl hrw hrw.1 hlow (fun j hj => rfl)
  · refine g_aload_n (q := 6) hx d_En_choose_5 rfl rfl ?_
    refine g_dup (q := 7) hx d_En_choose_6 rfl rfl ?_
    refine g_getl (q := 10) hx d_En_choose_7 rfl fl_En_19 (by assumption) hlow ?_
    refine g_lload_n (q := 11) hx d_En_choose_10 rfl rfl ?_
    refine g_ladd (q := 12) hx d_En_choose_11 rfl (lN_add _ _) ?_
    refine g_putl (q := 15) hx d_En_choose_12 rfl fl_En_19 nf_2_4 (by assumption) ?_
    obtain rfl : L1 = low + B := by rw [hL1, if_neg (by omega)]
    exact tail _ (zOm.rf.sl (Or.inl rfl)) (zl_k (by omega)) hrw hrw.1 (zl_s _ _ _ _) (fun j hj => rfl)
set_option maxHeartbeats 4000000 in
set_option maxRecDepth 100000 in
theorem c_En_shiftByte (l : Launch) (E : zE) (Γ : zG) (n : Nat) (M : zM) (X low r : Nat) (row : Nat → Nat) (hs : pEs Γ M.2.2 X) (hlow : zl M X 4 = lN low) (hlB : low < 2 ^ 62) (hrw : pEr M X r row) (hr : r ≤ 250) :
    zCt l E Y_En_shiftByte 0 (0, 0) [.ref X] Γ n M (zPv Γ n (fun M' => zOm (fun a => a = X ∨ a = X + 2) M M' ∧ zl M' X 4 = lN (low % 16777216 * 256) ∧ zl M' X 1 = zl M X 1 ∧ pEr M' X (r + 1) (mUp row r (low / 16777216)) ∧ ∀ j, j < 3 → zi M' (X + 2) j = zi M (X + 2) j)) := by
  refine zCt.of [(0, .ref X)] (by decide) (Nat.le_of_ble_eq_true rfl) rfl (fun f hfl hx hQ => ?_)
  obtain ⟨hg0, hg1, hg2, hp0, hp2, hX0⟩ := hs
  have hp0 : zr M X 0 = X + 1 := hp0
  have hp2 : zr M X 2 = X + 2 := hp2
  refine g_aload_n (q := 1) hx d_En_shiftByte_0 rfl rfl ?_
  refine g_geti (q := 4) hx d_En_shiftByte_1 rfl fl_En_15 (by assumption) hrw.1 ?_
  refine g_sipush (q := 7) (v := nI 260) hx d_En_shiftByte_4 rfl (by decide) ?_
  refine g_icmp_ge (q := 10) (t := 38) hx d_En_shiftByte_7 rfl rfl (nI_leI (by omega) (by omega)) (fun h7 => ?_) (fun h7 => ?_)
  · exact absurd h7 (by omega)
  · refine g_aload_n (q := 11) hx d_En_shiftByte_10 rfl rfl ?_
    refine g_geta (q := 14) hx d_En_shiftByte_11 rfl fl_En_9 (by assumption) (by assumption) (by omega) ?_
    refine g_aload_n (q := 15) hx d_En_shiftByte_14 rfl rfl ?_
    refine g_geti (q := 18) hx d_En_shiftByte_15 rfl fl_En_15 (by assumption) hrw.1 ?_
    refine g_aload_n (q := 19) hx d_En_shiftByte_18 rfl rfl ?_
    refine g_getl (q := 22) hx d_En_shiftByte_19 rfl fl_En_19 (by assumption) hlow ?_
    refine g_ldc2 (q := 25) (v := lN 16777216) hx d_En_shiftByte_22 rfl ct_En_67 ?_
    refine g_ldiv (q := 26) hx d_En_shiftByte_25 rfl (zl_ne0 (by omega) (by omega)) (pk_lDiv (by omega) (by omega) (by omega)) ?_
    refine g_l2i (q := 27) hx d_En_shiftByte_26 rfl (lN_i _) ?_
    refine g_iast (q := 28) hx d_En_shiftByte_27 rfl (by assumption) rfl (by omega) (by decide) ?_
    refine g_aload_n (q := 29) hx d_En_shiftByte_28 rfl rfl ?_
    refine g_dup (q := 30) hx d_En_shiftByte_29 rfl rfl ?_
    refine g_geti (q := 33) hx d_En_shiftByte_30 rfl fl_En_15 (by assumption) ((zi_a (by omega)).trans hrw.1) ?_
    refine g_iconst (q := 34) (v := nI 1) hx d_En_shiftByte_33 rfl (by decide) ?_
    refine g_iadd (q := 35) hx d_En_shiftByte_34 rfl (nI_add _ _) ?_
    refine g_puti (q := 38) hx d_En_shiftByte_35 rfl fl_En_15 nf_2_3 (by assumption) ?_
    refine g_aload_n (q := 39) hx d_En_shiftByte_38 rfl rfl ?_
    refine g_aload_n (q := 40) hx d_En_shiftByte_39 rfl rfl ?_
    refine g_getl (q := 43) hx d_En_shiftByte_40 rfl fl_En_19 (by assumption) hlow ?_
    refine g_ldc2 (q := 46) (v := lN 16777216) hx d_En_shiftByte_43 rfl ct_En_67 ?_
    refine g_lrem (q := 47) hx d_En_shiftByte_46 rfl (zl_ne0 (by omega) (by omega)) (pk_lRem (by omega) (by omega) (by omega)) ?_
    refine g_ldc2 (q := 50) (v := lN 256) hx d_En_shiftByte_47 rfl ct_En_69 ?_
    refine g_lmul (q := 51) hx d_En_shiftByte_50 rfl (lN_mul _ _) ?_
    refine g_putl (q := 54) hx d_En_shiftByte_51 rfl fl_En_19 nf_2_4 (by assumption) ?_
    exact g_vret hx d_En_shiftByte_54 rfl hQ ⟨Nat.le_refl _, Nat.le_refl _⟩ ⟨rfl, rfl, rfl, ((zOm.rf.si (Or.inr rfl)).si (Or.inl rfl)).sl (Or.inl rfl), zl_s _ _ _ _, (zl_k (by omega)).trans rfl, ⟨by rw [zi_l, zi_s], fun j hj => by
        rw [zi_l, zi_a (by omega)]
        by_cases e : j = r
        · subst e
          rw [show j + 3 = j + 3 from rfl, zi_s, mUp_s]
        · rw [zi_k (by omega), mUp_n e]; exact hrw.2 j (by omega)⟩, fun j hj => by rw [zi_l, zi_a (by omega), zi_k (by omega)]⟩
