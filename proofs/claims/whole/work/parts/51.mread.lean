/-- the writer in the reference, with the decisions that are still to come -/
def qC (M0 : zM) (m : Nat) (M : zM) (s : mEl) : Prop := kF bCA bCI bCL m M0 M ∧ qE M m s.1 ∧ mCan s.1 s.2
theorem c_Mo_putN (l : Launch) (E : zE) (Γ : zG) (n : Nat) (M0 M : zM) (m : Nat) (p b : Nat) (s : mEn) (lst : List (Nat × Nat)) (hq : qX Γ M0.2.2 m) (hI : qC M0 m M (s, (p, b) :: lst)) :
    zCt l E Y_Mo_put 1 (0, 0) [.ref m, .int (nI p), .int (nI b)] Γ n M (zPv Γ n (fun M' => qC M0 m M' (mPut s (p, b), lst))) := by
  have hg := hI.2.2.2.1 (p, b) List.mem_cons_self
  refine (c_Mo_put l E Γ n M m p b s (by rw [hI.1.r]; exact hq) hI.2.1 hI.2.2.1 (Nat.le_trans hI.2.2.bytes (by omega)) hg.1 hg.2).mono ?_
  rintro v Γ' n' M' ⟨h1, h2, h3, h4, h5⟩
  exact ⟨h1, h2, h3, hI.1.tr h4, h5, hI.2.2.next⟩
theorem mPuts_cons (s : mEn) (x : Nat × Nat) (l : List (Nat × Nat)) : mPuts s (x :: l) = mPuts (mPut s x) l := rfl
theorem mPuts_nil (s : mEn) : mPuts s [] = s := rfl
def mR2 (g v K i : Nat) : List (Nat × Nat) := if i ≤ K then mN1 g v (9 - i) i else []
theorem mR2_lt {g v K i : Nat} (h : i < K) (hK : K ≤ 7) (h2 : 2 ^ (i + 1) ≤ v + 1) : mR2 g v K i = (9 * g + i, 1) :: mR2 g v K (i + 1) := by
  unfold mR2
  rw [if_pos (by omega), if_pos (by omega), show 9 - i = (9 - (i + 1)) + 1 by omega]
  simp only [mN1]
  rw [if_pos h2]
theorem mR2_eq {g v K : Nat} (hK : K ≤ 7) (h2 : v + 1 < 2 ^ (K + 1)) : mR2 g v K K = [(9 * g + K, 0)] := by
  unfold mR2
  rw [if_pos (Nat.le_refl _), show 9 - K = (9 - (K + 1)) + 1 by omega]
  simp only [mN1]
  rw [if_neg (by omega)]
theorem mR2_gt {g v K i : Nat} (h : K < i) : mR2 g v K i = [] := if_neg (by omega)
theorem mKk_f : ∀ v, v < 161 → mKk v 9 0 ≤ 7 ∧ (∀ i, i < mKk v 9 0 → 2 ^ (i + 1) ≤ v + 1) ∧ v + 1 < 2 ^ (mKk v 9 0 + 1) := by decide +kernel
theorem z_shl1 : ∀ i, i < 9 → nI 1 <<< (nI (i + 1) &&& 31) = nI (2 ^ (i + 1)) := by decide +kernel
set_option maxHeartbeats 4000000 in
set_option maxRecDepth 100000 in
theorem c_Mo_putNumber (l : Launch) (E : zE) (Γ : zG) (n : Nat) (M0 M : zM) (m : Nat) (g v : Nat) (s : mEn) (lst : List (Nat × Nat)) (hq : qX Γ M0.2.2 m) (hg : g < 3) (hv : v < 161) (hI : qC M0 m M (s, mNum g v ++ lst)) :
    zCt l E Y_Mo_putNumber 2 (0, 0) [.ref m, .int (nI g), .int (nI v)] Γ n M (zPv Γ n (fun M' => qC M0 m M' (mPuts s (mNum g v), lst))) := by
  refine zCt.of [(0, .ref m), (1, .int (nI g)), (2, .int (nI v))] (by decide) (Nat.le_of_ble_eq_true rfl) rfl (fun f hfl hx hQ => ?_)
  obtain ⟨hK7, hK2, hK3⟩ := mKk_f v hv
  obtain ⟨F, hFe⟩ : ∃ F, F = mPuts s (mNum g v) := ⟨_, rfl⟩
  rw [← hFe] at hQ
  have hnum : mNum g v = mR2 g v (mKk v 9 0) 0 ++ mN2 v (mKk v 9 0) := by
    unfold mNum mR2
    rw [if_pos (Nat.zero_le _)]
  rw [hnum] at hI hFe
  rw [List.append_assoc] at hI
  generalize mKk v 9 0 = K at *
  clear hnum
  have hm0 := hq.m0
  have loop3 : ∀ (c : Nat) (M1 : zM), ∀ s1 : mEn, c ≤ K → qC M0 m M1 (s1, mN2 v c ++ lst) → mPuts s1 (mN2 v c) = F → zGo f E Γ n (0, 0) M1 74 [(4, .int (nI c - nI 1)), (3, .int (nI K)), (0, .ref m), (1, .int (nI g)), (2, .int (nI v))] [] := by
    refine z_lp (fun c => c) _ ?_
    intro c M1 ih s1 hc hI hF
    refine g_iload (q := 76) hx d_Mo_putNumber_74 rfl rfl ?_
    refine g_if_lt (q := 79) (t := 99) hx d_Mo_putNumber_76 rfl rfl (z_m1lt (by omega)) (fun hc0 => ?_) (fun hc0 => ?_)
    · subst hc0
      exact g_vret hx d_Mo_putNumber_99 rfl hQ ⟨Nat.le_refl _, Nat.le_refl _⟩ ⟨rfl, rfl, rfl, by rw [← hF]; exact hI⟩
    · obtain ⟨c, rfl⟩ : ∃ j, c = j + 1 := ⟨c - 1, by omega⟩
      rw [show nI (c + 1) - nI 1 = nI c from pk_sub (by omega)]
      simp only [mN2, List.cons_append] at hI hF
      rw [mPuts_cons] at hF
      refine g_aload_n (q := 80) hx d_Mo_putNumber_79 rfl rfl ?_
      refine g_bipush (q := 82) (v := nI 58) hx d_Mo_putNumber_80 rfl (by decide) ?_
      refine g_iload_n (q := 83) hx d_Mo_putNumber_82 rfl rfl ?_
      refine g_iconst (q := 84) (v := nI 1) hx d_Mo_putNumber_83 rfl (by decide) ?_
      refine g_iadd (q := 85) hx d_Mo_putNumber_84 rfl (nI_add _ _) ?_
      refine g_iload (q := 87) hx d_Mo_putNumber_85 rfl rfl ?_
      refine g_ishr (q := 88) hx d_Mo_putNumber_87 rfl rfl ?_
      refine g_iconst (q := 89) (v := nI 1) hx d_Mo_putNumber_88 rfl (by decide) ?_
      refine g_iand (q := 90) hx d_Mo_putNumber_89 rfl (z_shr1 (v + 1) (by omega) c (by omega)) ?_
      refine g_cv (q := 93) (zrunV hx d_Mo_putNumber_90 lk_Mo_108 rfl rfl hq.g0 rfl rfl (Nat.le_of_ble_eq_true rfl) (by decide) (by omega) (by omega) (c_Mo_putN _ E Γ n M0 _ m 58 _ s1 _ hq hI)) rfl (fun M90 p90 => ?_)
      
      refine g_iinc (q := 96) (lc' := [(4, _), (3, _), (0, _), (1, _), (2, _)]) hx d_Mo_putNumber_93 rfl rfl (z_m1 c) (by decide) rfl ?_
      refine g_goto (q := 74) hx d_Mo_putNumber_96 rfl ?_
      exact ih c M90 (by omega) _ (by omega) p90 hF
  have loop2 : ∀ (i : Nat) (M1 : zM), ∀ s1 : mEn, i ≤ 9 → qC M0 m M1 (s1, mR2 g v K i ++ (mN2 v K ++ lst)) → mPuts s1 (mR2 g v K i ++ mN2 v K) = F → zGo f E Γ n (0, 0) M1 28 [(4, .int (nI i)), (3, .int (nI K)), (0, .ref m), (1, .int (nI g)), (2, .int (nI v))] [] := by
    refine z_lp (fun i => 9 - i) _ ?_
    intro i M1 ih s1 hi hI hF
    refine g_iload (q := 30) hx d_Mo_putNumber_28 rfl rfl ?_
    refine g_bipush (q := 32) (v := nI 9) hx d_Mo_putNumber_30 rfl (by decide) ?_
    refine g_icmp_ge (q := 35) (t := 69) hx d_Mo_putNumber_32 rfl rfl (nI_leI (by omega) (by omega)) (fun h32 => ?_) (fun h32 => ?_)
    · rw [mR2_gt (by omega)] at hI hF
      refine g_iload_n (q := 70) hx d_Mo_putNumber_69 rfl rfl ?_
      refine g_iconst (q := 71) (v := nI 1) hx d_Mo_putNumber_70 rfl (by decide) ?_
      refine g_isub (q := 72) hx d_Mo_putNumber_71 rfl rfl ?_
      refine g_istore (q := 74) (lc' := [(4, _), (3, _), (0, _), (1, _), (2, _)]) hx d_Mo_putNumber_72 rfl (by decide) rfl ?_
      exact loop3 _ M1 s1 (Nat.le_refl _) hI hF
    · refine g_iload (q := 37) hx d_Mo_putNumber_35 rfl rfl ?_
      refine g_iload_n (q := 38) hx d_Mo_putNumber_37 rfl rfl ?_
      refine g_icmp_gt (q := 41) (t := 63) hx d_Mo_putNumber_38 rfl rfl (nI_ltI (by omega) (by omega)) (fun h38 => ?_) (fun h38 => ?_)
      · refine g_iinc (q := 66) (lc' := [(4, _), (3, _), (0, _), (1, _), (2, _)]) hx d_Mo_putNumber_63 rfl rfl (z_inc _) (by decide) rfl ?_
        refine g_goto (q := 28) hx d_Mo_putNumber_66 rfl ?_
        exact ih (i + 1) M1 (by omega) s1 (by omega) (by rw [mR2_gt (by omega)]; rw [mR2_gt (by omega)] at hI; exact hI) (by rw [mR2_gt (by omega)]; rw [mR2_gt (by omega)] at hF; exact hF)
      · refine g_aload_n (q := 42) hx d_Mo_putNumber_41 rfl rfl ?_
        refine g_bipush (q := 44) (v := nI 9) hx d_Mo_putNumber_42 rfl (by decide) ?_
        refine g_iload_n (q := 45) hx d_Mo_putNumber_44 rfl rfl ?_
        refine g_imul (q := 46) hx d_Mo_putNumber_45 rfl (pk_mul _ _) ?_
        refine g_iload (q := 48) hx d_Mo_putNumber_46 rfl rfl ?_
        refine g_iadd (q := 49) hx d_Mo_putNumber_48 rfl (nI_add _ _) ?_
        refine g_iload (q := 51) hx d_Mo_putNumber_49 rfl rfl ?_
        refine g_iload_n (q := 52) hx d_Mo_putNumber_51 rfl rfl ?_
        refine g_icmp_ge (q := 55) (t := 59) hx d_Mo_putNumber_52 rfl rfl (nI_leI (by omega) (by omega)) (fun h52 => ?_) (fun h52 => ?_)
        · obtain rfl : i = K := (by omega)
          have e9 : mR2 g v i i = (9 * g + i, 0) :: mR2 g v i (i + 1) := by rw [mR2_eq hK7 hK3, mR2_gt (by omega)]
          rw [e9] at hI hF
          rw [List.cons_append, mPuts_cons] at hF
          refine g_iconst (q := 60) (v := nI 0) hx d_Mo_putNumber_59 rfl (by decide) ?_
          refine g_cv (q := 63) (zrunV hx d_Mo_putNumber_60 lk_Mo_108 rfl rfl hq.g0 rfl rfl (Nat.le_of_ble_eq_true rfl) (by decide) (by omega) (by omega) (c_Mo_putN _ E Γ n M0 _ m (9 * g + i) _ s1 _ hq hI)) rfl (fun M60 p60 => ?_)
          
          refine g_iinc (q := 66) (lc' := [(4, _), (3, _), (0, _), (1, _), (2, _)]) hx d_Mo_putNumber_63 rfl rfl (z_inc _) (by decide) rfl ?_
          refine g_goto (q := 28) hx d_Mo_putNumber_66 rfl ?_
          exact ih (i + 1) M60 (by omega) _ (by omega) p60 hF
        · rw [mR2_lt (by omega) hK7 (hK2 i (by omega))] at hI hF
          rw [List.cons_append, mPuts_cons] at hF
          refine g_iconst (q := 56) (v := nI 1) hx d_Mo_putNumber_55 rfl (by decide) ?_
          refine g_goto (q := 60) hx d_Mo_putNumber_56 rfl ?_
          refine g_cv (q := 63) (zrunV hx d_Mo_putNumber_60 lk_Mo_108 rfl rfl hq.g0 rfl rfl (Nat.le_of_ble_eq_true rfl) (by decide) (by omega) (by omega) (c_Mo_putN _ E Γ n M0 _ m (9 * g + i) _ s1 _ hq hI)) rfl (fun M60 p60 => ?_)
          
          refine g_iinc (q := 66) (lc' := [(4, _), (3, _), (0, _), (1, _), (2, _)]) hx d_Mo_putNumber_63 rfl rfl (z_inc _) (by decide) rfl ?_
          refine g_goto (q := 28) hx d_Mo_putNumber_66 rfl ?_
          exact ih (i + 1) M60 (by omega) _ (by omega) p60 hF
  have loop1 : ∀ (k : Nat) (M1 : zM), k ≤ K → qC M0 m M1 (s, mR2 g v K 0 ++ (mN2 v K ++ lst)) → mPuts s (mR2 g v K 0 ++ mN2 v K) = F → zGo f E Γ n (0, 0) M1 2 [(3, .int (nI k)), (0, .ref m), (1, .int (nI g)), (2, .int (nI v))] [] := by
    refine z_lp (fun k => K - k) _ ?_
    intro k M1 ih hk hI hF
    refine g_iload_n (q := 3) hx d_Mo_putNumber_2 rfl rfl ?_
    refine g_bipush (q := 5) (v := nI 30) hx d_Mo_putNumber_3 rfl (by decide) ?_
    refine g_icmp_ge (q := 8) (t := 25) hx d_Mo_putNumber_5 rfl rfl (nI_leI (by omega) (by omega)) (fun h5 => ?_) (fun h5 => ?_)
    · exact absurd h5 (by omega)
    · refine g_iconst (q := 9) (v := nI 1) hx d_Mo_putNumber_8 rfl (by decide) ?_
      refine g_iload_n (q := 10) hx d_Mo_putNumber_9 rfl rfl ?_
      refine g_iconst (q := 11) (v := nI 1) hx d_Mo_putNumber_10 rfl (by decide) ?_
      refine g_iadd (q := 12) hx d_Mo_putNumber_11 rfl (nI_add _ _) ?_
      refine g_ishl (q := 13) hx d_Mo_putNumber_12 rfl (z_shl1 k (by omega)) ?_
      have h2p := z_p9 k (by omega)
      refine g_iload_n (q := 14) hx d_Mo_putNumber_13 rfl rfl ?_
      refine g_iconst (q := 15) (v := nI 1) hx d_Mo_putNumber_14 rfl (by decide) ?_
      refine g_iadd (q := 16) hx d_Mo_putNumber_15 rfl (nI_add _ _) ?_
      refine g_icmp_gt (q := 19) (t := 25) hx d_Mo_putNumber_16 rfl rfl (nI_ltI (by omega) (by omega)) (fun h16 => ?_) (fun h16 => ?_)
      · obtain rfl : k = K := by
          rcases Nat.lt_or_ge k K with h | h
          · have := hK2 k h; omega
          · omega
        refine g_iconst (q := 26) (v := nI 0) hx d_Mo_putNumber_25 rfl (by decide) ?_
        refine g_istore (q := 28) (lc' := [(4, _), (3, _), (0, _), (1, _), (2, _)]) hx d_Mo_putNumber_26 rfl (by decide) rfl ?_
        exact loop2 0 M1 s (by omega) hI hF
      · have hkK : k < K := by
          rcases Nat.lt_or_ge k K with h | h
          · exact h
          · obtain rfl : k = K := (by omega)
            omega
        refine g_iinc (q := 22) (lc' := [(3, _), (0, _), (1, _), (2, _)]) hx d_Mo_putNumber_19 rfl rfl (z_inc _) (by decide) rfl ?_
        refine g_goto (q := 2) hx d_Mo_putNumber_22 rfl ?_
        exact ih (k + 1) M1 (by omega) hkK hI hF
  refine g_iconst (q := 1) (v := nI 0) hx d_Mo_putNumber_0 rfl (by decide) ?_
  refine g_istore_n (q := 2) (lc' := [(3, _), (0, _), (1, _), (2, _)]) hx d_Mo_putNumber_1 rfl (by decide) rfl ?_
  exact loop1 0 M (Nat.zero_le _) hI hFe.symm
set_option maxHeartbeats 4000000 in
set_option maxRecDepth 100000 in
theorem c_Mo_putKind (l : Launch) (E : zE) (Γ : zG) (n : Nat) (M0 M : zM) (m : Nat) (b k : Nat) (s : mEn) (lst : List (Nat × Nat)) (hq : qX Γ M0.2.2 m) (hb : b < 5) (hk : k < 5) (hI : qC M0 m M (s, mKind b k ++ lst)) :
    zCt l E Y_Mo_putKind 2 (0, 0) [.ref m, .int (nI b), .int (nI k)] Γ n M (zPv Γ n (fun M' => qC M0 m M' (mPuts s (mKind b k), lst))) := by
  refine zCt.of [(0, .ref m), (1, .int (nI b)), (2, .int (nI k))] (by decide) (Nat.le_of_ble_eq_true rfl) rfl (fun f hfl hx hQ => ?_)
  have hm0 := hq.m0
  obtain rfl | rfl | rfl | rfl | rfl : k = 0 ∨ k = 1 ∨ k = 2 ∨ k = 3 ∨ k = 4 := by omega
  · have hKe : mKind b 0 = [(27 + 4 * b, 0)] := rfl
    have hKs : mPuts s (mKind b 0) = mPut s (27 + 4 * b, 0) := by rw [hKe]; simp only [mPuts_cons, mPuts_nil]
    rw [hKe] at hI
    simp only [List.cons_append, List.nil_append] at hI
    refine g_bipush (q := 2) (v := nI 27) hx d_Mo_putKind_0 rfl (by decide) ?_
    refine g_iconst (q := 3) (v := nI 4) hx d_Mo_putKind_2 rfl (by decide) ?_
    refine g_iload_n (q := 4) hx d_Mo_putKind_3 rfl rfl ?_
    refine g_imul (q := 5) hx d_Mo_putKind_4 rfl (pk_mul _ _) ?_
    refine g_iadd (q := 6) hx d_Mo_putKind_5 rfl (nI_add _ _) ?_
    refine g_istore_n (q := 7) (lc' := [(3, _), (0, _), (1, _), (2, _)]) hx d_Mo_putKind_6 rfl (by decide) rfl ?_
    refine g_aload_n (q := 8) hx d_Mo_putKind_7 rfl rfl ?_
    refine g_iload_n (q := 9) hx d_Mo_putKind_8 rfl rfl ?_
    refine g_iload_n (q := 10) hx d_Mo_putKind_9 rfl rfl ?_
    refine g_if_ne (q := 13) (t := 17) hx d_Mo_putKind_10 rfl rfl (zb_ne0 (by omega)) (fun h10 => ?_) (fun h10 => ?_)
    · exact absurd h10 (by omega)
    · refine g_iconst (q := 14) (v := nI 0) hx d_Mo_putKind_13 rfl (by decide) ?_
      refine g_goto (q := 18) hx d_Mo_putKind_14 rfl ?_
      refine g_cv (q := 21) (zrunV hx d_Mo_putKind_18 lk_Mo_108 rfl rfl hq.g0 rfl rfl (Nat.le_of_ble_eq_true rfl) (by decide) (by omega) (by omega) (c_Mo_putN _ E Γ n M0 _ m _ _ _ _ hq hI)) rfl (fun M18 p18 => ?_)
      replace hI := p18
      refine g_iload_n (q := 22) hx d_Mo_putKind_21 rfl rfl ?_
      refine g_if_eq (q := 25) (t := 42) hx d_Mo_putKind_22 rfl rfl (zb_eq0 (by omega)) (fun h22 => ?_) (fun h22 => ?_)
      · refine g_iload_n (q := 43) hx d_Mo_putKind_42 rfl rfl ?_
        refine g_iconst (q := 44) (v := nI 1) hx d_Mo_putKind_43 rfl (by decide) ?_
        refine g_icmp_eq (q := 47) (t := 57) hx d_Mo_putKind_44 rfl rfl (nI_eq (by omega) (by omega)) (fun h44 => ?_) (fun h44 => ?_)
        · exact absurd h44 (by omega)
        · refine g_iload_n (q := 48) hx d_Mo_putKind_47 rfl rfl ?_
          refine g_iconst (q := 49) (v := nI 2) hx d_Mo_putKind_48 rfl (by decide) ?_
          refine g_icmp_eq (q := 52) (t := 57) hx d_Mo_putKind_49 rfl rfl (nI_eq (by omega) (by omega)) (fun h49 => ?_) (fun h49 => ?_)
          · exact absurd h49 (by omega)
          · refine g_iload_n (q := 53) hx d_Mo_putKind_52 rfl rfl ?_
            refine g_iconst (q := 54) (v := nI 3) hx d_Mo_putKind_53 rfl (by decide) ?_
            refine g_icmp_ne (q := 57) (t := 74) hx d_Mo_putKind_54 rfl rfl (not_congr (nI_eq (by omega) (by omega))) (fun h54 => ?_) (fun h54 => ?_)
            · refine g_iload_n (q := 75) hx d_Mo_putKind_74 rfl rfl ?_
              refine g_iconst (q := 76) (v := nI 2) hx d_Mo_putKind_75 rfl (by decide) ?_
              refine g_icmp_eq (q := 79) (t := 84) hx d_Mo_putKind_76 rfl rfl (nI_eq (by omega) (by omega)) (fun h76 => ?_) (fun h76 => ?_)
              · exact absurd h76 (by omega)
              · refine g_iload_n (q := 80) hx d_Mo_putKind_79 rfl rfl ?_
                refine g_iconst (q := 81) (v := nI 3) hx d_Mo_putKind_80 rfl (by decide) ?_
                refine g_icmp_ne (q := 84) (t := 101) hx d_Mo_putKind_81 rfl rfl (not_congr (nI_eq (by omega) (by omega))) (fun h81 => ?_) (fun h81 => ?_)
                · exact g_vret hx d_Mo_putKind_101 rfl hQ ⟨Nat.le_refl _, Nat.le_refl _⟩ ⟨rfl, rfl, rfl, by rw [hKs]; exact hI⟩
                · exact absurd h81 (by omega)
            · exact absurd h54 (by omega)
      · exact absurd h22 (by omega)
  · have hKe : mKind b 1 = [(27 + 4 * b, 1), (27 + 4 * b + 1, 1), (27 + 4 * b + 2, 0)] := rfl
    have hKs : mPuts s (mKind b 1) = mPut (mPut (mPut s (27 + 4 * b, 1)) (27 + 4 * b + 1, 1)) (27 + 4 * b + 2, 0) := by rw [hKe]; simp only [mPuts_cons, mPuts_nil]
    rw [hKe] at hI
    simp only [List.cons_append, List.nil_append] at hI
    refine g_bipush (q := 2) (v := nI 27) hx d_Mo_putKind_0 rfl (by decide) ?_
    refine g_iconst (q := 3) (v := nI 4) hx d_Mo_putKind_2 rfl (by decide) ?_
    refine g_iload_n (q := 4) hx d_Mo_putKind_3 rfl rfl ?_
    refine g_imul (q := 5) hx d_Mo_putKind_4 rfl (pk_mul _ _) ?_
    refine g_iadd (q := 6) hx d_Mo_putKind_5 rfl (nI_add _ _) ?_
    refine g_istore_n (q := 7) (lc' := [(3, _), (0, _), (1, _), (2, _)]) hx d_Mo_putKind_6 rfl (by decide) rfl ?_
    refine g_aload_n (q := 8) hx d_Mo_putKind_7 rfl rfl ?_
    refine g_iload_n (q := 9) hx d_Mo_putKind_8 rfl rfl ?_
    refine g_iload_n (q := 10) hx d_Mo_putKind_9 rfl rfl ?_
    refine g_if_ne (q := 13) (t := 17) hx d_Mo_putKind_10 rfl rfl (zb_ne0 (by omega)) (fun h10 => ?_) (fun h10 => ?_)
    · refine g_iconst (q := 18) (v := nI 1) hx d_Mo_putKind_17 rfl (by decide) ?_
      refine g_cv (q := 21) (zrunV hx d_Mo_putKind_18 lk_Mo_108 rfl rfl hq.g0 rfl rfl (Nat.le_of_ble_eq_true rfl) (by decide) (by omega) (by omega) (c_Mo_putN _ E Γ n M0 _ m _ _ _ _ hq hI)) rfl (fun M18 p18 => ?_)
      replace hI := p18
      refine g_iload_n (q := 22) hx d_Mo_putKind_21 rfl rfl ?_
      refine g_if_eq (q := 25) (t := 42) hx d_Mo_putKind_22 rfl rfl (zb_eq0 (by omega)) (fun h22 => ?_) (fun h22 => ?_)
      · exact absurd h22 (by omega)
      · refine g_aload_n (q := 26) hx d_Mo_putKind_25 rfl rfl ?_
        refine g_iload_n (q := 27) hx d_Mo_putKind_26 rfl rfl ?_
        refine g_iconst (q := 28) (v := nI 1) hx d_Mo_putKind_27 rfl (by decide) ?_
        refine g_iadd (q := 29) hx d_Mo_putKind_28 rfl (nI_add _ _) ?_
        refine g_iload_n (q := 30) hx d_Mo_putKind_29 rfl rfl ?_
        refine g_iconst (q := 31) (v := nI 4) hx d_Mo_putKind_30 rfl (by decide) ?_
        refine g_icmp_ne (q := 34) (t := 38) hx d_Mo_putKind_31 rfl rfl (not_congr (nI_eq (by omega) (by omega))) (fun h31 => ?_) (fun h31 => ?_)
        · refine g_iconst (q := 39) (v := nI 1) hx d_Mo_putKind_38 rfl (by decide) ?_
          refine g_cv (q := 42) (zrunV hx d_Mo_putKind_39 lk_Mo_108 rfl rfl hq.g0 rfl rfl (Nat.le_of_ble_eq_true rfl) (by decide) (by omega) (by omega) (c_Mo_putN _ E Γ n M0 _ m _ _ _ _ hq hI)) rfl (fun M39 p39 => ?_)
          replace hI := p39
          refine g_iload_n (q := 43) hx d_Mo_putKind_42 rfl rfl ?_
          refine g_iconst (q := 44) (v := nI 1) hx d_Mo_putKind_43 rfl (by decide) ?_
          refine g_icmp_eq (q := 47) (t := 57) hx d_Mo_putKind_44 rfl rfl (nI_eq (by omega) (by omega)) (fun h44 => ?_) (fun h44 => ?_)
          · refine g_aload_n (q := 58) hx d_Mo_putKind_57 rfl rfl ?_
            refine g_iload_n (q := 59) hx d_Mo_putKind_58 rfl rfl ?_
            refine g_iconst (q := 60) (v := nI 2) hx d_Mo_putKind_59 rfl (by decide) ?_
            refine g_iadd (q := 61) hx d_Mo_putKind_60 rfl (nI_add _ _) ?_
            refine g_iload_n (q := 62) hx d_Mo_putKind_61 rfl rfl ?_
            refine g_iconst (q := 63) (v := nI 1) hx d_Mo_putKind_62 rfl (by decide) ?_
            refine g_icmp_ne (q := 66) (t := 70) hx d_Mo_putKind_63 rfl rfl (not_congr (nI_eq (by omega) (by omega))) (fun h63 => ?_) (fun h63 => ?_)
            · exact absurd h63 (by omega)
            · refine g_iconst (q := 67) (v := nI 0) hx d_Mo_putKind_66 rfl (by decide) ?_
              refine g_goto (q := 71) hx d_Mo_putKind_67 rfl ?_
              refine g_cv (q := 74) (zrunV hx d_Mo_putKind_71 lk_Mo_108 rfl rfl hq.g0 rfl rfl (Nat.le_of_ble_eq_true rfl) (by decide) (by omega) (by omega) (c_Mo_putN _ E Γ n M0 _ m _ _ _ _ hq hI)) rfl (fun M71 p71 => ?_)
              replace hI := p71
              refine g_iload_n (q := 75) hx d_Mo_putKind_74 rfl rfl ?_
              refine g_iconst (q := 76) (v := nI 2) hx d_Mo_putKind_75 rfl (by decide) ?_
              refine g_icmp_eq (q := 79) (t := 84) hx d_Mo_putKind_76 rfl rfl (nI_eq (by omega) (by omega)) (fun h76 => ?_) (fun h76 => ?_)
              · exact absurd h76 (by omega)
              · refine g_iload_n (q := 80) hx d_Mo_putKind_79 rfl rfl ?_
                refine g_iconst (q := 81) (v := nI 3) hx d_Mo_putKind_80 rfl (by decide) ?_
                refine g_icmp_ne (q := 84) (t := 101) hx d_Mo_putKind_81 rfl rfl (not_congr (nI_eq (by omega) (by omega))) (fun h81 => ?_) (fun h81 => ?_)
                · exact g_vret hx d_Mo_putKind_101 rfl hQ ⟨Nat.le_refl _, Nat.le_refl _⟩ ⟨rfl, rfl, rfl, by rw [hKs]; exact hI⟩
                · exact absurd h81 (by omega)
          · exact absurd h44 (by omega)
        · exact absurd h31 (by omega)
    · exact absurd h10 (by omega)
  · have hKe : mKind b 2 = [(27 + 4 * b, 1), (27 + 4 * b + 1, 1), (27 + 4 * b + 2, 1), (27 + 4 * b + 3, 0)] := rfl
    have hKs : mPuts s (mKind b 2) = mPut (mPut (mPut (mPut s (27 + 4 * b, 1)) (27 + 4 * b + 1, 1)) (27 + 4 * b + 2, 1)) (27 + 4 * b + 3, 0) := by rw [hKe]; simp only [mPuts_cons, mPuts_nil]
    rw [hKe] at hI
    simp only [List.cons_append, List.nil_append] at hI
    refine g_bipush (q := 2) (v := nI 27) hx d_Mo_putKind_0 rfl (by decide) ?_
    refine g_iconst (q := 3) (v := nI 4) hx d_Mo_putKind_2 rfl (by decide) ?_
    refine g_iload_n (q := 4) hx d_Mo_putKind_3 rfl rfl ?_
    refine g_imul (q := 5) hx d_Mo_putKind_4 rfl (pk_mul _ _) ?_
    refine g_iadd (q := 6) hx d_Mo_putKind_5 rfl (nI_add _ _) ?_
    refine g_istore_n (q := 7) (lc' := [(3, _), (0, _), (1, _), (2, _)]) hx d_Mo_putKind_6 rfl (by decide) rfl ?_
    refine g_aload_n (q := 8) hx d_Mo_putKind_7 rfl rfl ?_
    refine g_iload_n (q := 9) hx d_Mo_putKind_8 rfl rfl ?_
    refine g_iload_n (q := 10) hx d_Mo_putKind_9 rfl rfl ?_
    refine g_if_ne (q := 13) (t := 17) hx d_Mo_putKind_10 rfl rfl (zb_ne0 (by omega)) (fun h10 => ?_) (fun h10 => ?_)
    · refine g_iconst (q := 18) (v := nI 1) hx d_Mo_putKind_17 rfl (by decide) ?_
      refine g_cv (q := 21) (zrunV hx d_Mo_putKind_18 lk_Mo_108 rfl rfl hq.g0 rfl rfl (Nat.le_of_ble_eq_true rfl) (by decide) (by omega) (by omega) (c_Mo_putN _ E Γ n M0 _ m _ _ _ _ hq hI)) rfl (fun M18 p18 => ?_)
      replace hI := p18
      refine g_iload_n (q := 22) hx d_Mo_putKind_21 rfl rfl ?_
      refine g_if_eq (q := 25) (t := 42) hx d_Mo_putKind_22 rfl rfl (zb_eq0 (by omega)) (fun h22 => ?_) (fun h22 => ?_)
      · exact absurd h22 (by omega)
      · refine g_aload_n (q := 26) hx d_Mo_putKind_25 rfl rfl ?_
        refine g_iload_n (q := 27) hx d_Mo_putKind_26 rfl rfl ?_
        refine g_iconst (q := 28) (v := nI 1) hx d_Mo_putKind_27 rfl (by decide) ?_
        refine g_iadd (q := 29) hx d_Mo_putKind_28 rfl (nI_add _ _) ?_
        refine g_iload_n (q := 30) hx d_Mo_putKind_29 rfl rfl ?_
        refine g_iconst (q := 31) (v := nI 4) hx d_Mo_putKind_30 rfl (by decide) ?_
        refine g_icmp_ne (q := 34) (t := 38) hx d_Mo_putKind_31 rfl rfl (not_congr (nI_eq (by omega) (by omega))) (fun h31 => ?_) (fun h31 => ?_)
        · refine g_iconst (q := 39) (v := nI 1) hx d_Mo_putKind_38 rfl (by decide) ?_
          refine g_cv (q := 42) (zrunV hx d_Mo_putKind_39 lk_Mo_108 rfl rfl hq.g0 rfl rfl (Nat.le_of_ble_eq_true rfl) (by decide) (by omega) (by omega) (c_Mo_putN _ E Γ n M0 _ m _ _ _ _ hq hI)) rfl (fun M39 p39 => ?_)
          replace hI := p39
          refine g_iload_n (q := 43) hx d_Mo_putKind_42 rfl rfl ?_
          refine g_iconst (q := 44) (v := nI 1) hx d_Mo_putKind_43 rfl (by decide) ?_
          refine g_icmp_eq (q := 47) (t := 57) hx d_Mo_putKind_44 rfl rfl (nI_eq (by omega) (by omega)) (fun h44 => ?_) (fun h44 => ?_)
          · exact absurd h44 (by omega)
          · refine g_iload_n (q := 48) hx d_Mo_putKind_47 rfl rfl ?_
            refine g_iconst (q := 49) (v := nI 2) hx d_Mo_putKind_48 rfl (by decide) ?_
            refine g_icmp_eq (q := 52) (t := 57) hx d_Mo_putKind_49 rfl rfl (nI_eq (by omega) (by omega)) (fun h49 => ?_) (fun h49 => ?_)
            · refine g_aload_n (q := 58) hx d_Mo_putKind_57 rfl rfl ?_
              refine g_iload_n (q := 59) hx d_Mo_putKind_58 rfl rfl ?_
              refine g_iconst (q := 60) (v := nI 2) hx d_Mo_putKind_59 rfl (by decide) ?_
              refine g_iadd (q := 61) hx d_Mo_putKind_60 rfl (nI_add _ _) ?_
              refine g_iload_n (q := 62) hx d_Mo_putKind_61 rfl rfl ?_
              refine g_iconst (q := 63) (v := nI 1) hx d_Mo_putKind_62 rfl (by decide) ?_
              refine g_icmp_ne (q := 66) (t := 70) hx d_Mo_putKind_63 rfl rfl (not_congr (nI_eq (by omega) (by omega))) (fun h63 => ?_) (fun h63 => ?_)
              · refine g_iconst (q := 71) (v := nI 1) hx d_Mo_putKind_70 rfl (by decide) ?_
                refine g_cv (q := 74) (zrunV hx d_Mo_putKind_71 lk_Mo_108 rfl rfl hq.g0 rfl rfl (Nat.le_of_ble_eq_true rfl) (by decide) (by omega) (by omega) (c_Mo_putN _ E Γ n M0 _ m _ _ _ _ hq hI)) rfl (fun M71 p71 => ?_)
                replace hI := p71
                refine g_iload_n (q := 75) hx d_Mo_putKind_74 rfl rfl ?_
                refine g_iconst (q := 76) (v := nI 2) hx d_Mo_putKind_75 rfl (by decide) ?_
                refine g_icmp_eq (q := 79) (t := 84) hx d_Mo_putKind_76 rfl rfl (nI_eq (by omega) (by omega)) (fun h76 => ?_) (fun h76 => ?_)
                · refine g_aload_n (q := 85) hx d_Mo_putKind_84 rfl rfl ?_
                  refine g_iload_n (q := 86) hx d_Mo_putKind_85 rfl rfl ?_
                  refine g_iconst (q := 87) (v := nI 3) hx d_Mo_putKind_86 rfl (by decide) ?_
                  refine g_iadd (q := 88) hx d_Mo_putKind_87 rfl (nI_add _ _) ?_
                  refine g_iload_n (q := 89) hx d_Mo_putKind_88 rfl rfl ?_
                  refine g_iconst (q := 90) (v := nI 2) hx d_Mo_putKind_89 rfl (by decide) ?_
                  refine g_icmp_ne (q := 93) (t := 97) hx d_Mo_putKind_90 rfl rfl (not_congr (nI_eq (by omega) (by omega))) (fun h90 => ?_) (fun h90 => ?_)
                  · exact absurd h90 (by omega)
                  · refine g_iconst (q := 94) (v := nI 0) hx d_Mo_putKind_93 rfl (by decide) ?_
                    refine g_goto (q := 98) hx d_Mo_putKind_94 rfl ?_
                    refine g_cv (q := 101) (zrunV hx d_Mo_putKind_98 lk_Mo_108 rfl rfl hq.g0 rfl rfl (Nat.le_of_ble_eq_true rfl) (by decide) (by omega) (by omega) (c_Mo_putN _ E Γ n M0 _ m _ _ _ _ hq hI)) rfl (fun M98 p98 => ?_)
                    replace hI := p98
                    exact g_vret hx d_Mo_putKind_101 rfl hQ ⟨Nat.le_refl _, Nat.le_refl _⟩ ⟨rfl, rfl, rfl, by rw [hKs]; exact hI⟩
                · exact absurd h76 (by omega)
              · exact absurd h63 (by omega)
            · exact absurd h49 (by omega)
        · exact absurd h31 (by omega)
    · exact absurd h10 (by omega)
  · have hKe : mKind b 3 = [(27 + 4 * b, 1), (27 + 4 * b + 1, 1), (27 + 4 * b + 2, 1), (27 + 4 * b + 3, 1)] := rfl
    have hKs : mPuts s (mKind b 3) = mPut (mPut (mPut (mPut s (27 + 4 * b, 1)) (27 + 4 * b + 1, 1)) (27 + 4 * b + 2, 1)) (27 + 4 * b + 3, 1) := by rw [hKe]; simp only [mPuts_cons, mPuts_nil]
    rw [hKe] at hI
    simp only [List.cons_append, List.nil_append] at hI
    refine g_bipush (q := 2) (v := nI 27) hx d_Mo_putKind_0 rfl (by decide) ?_
    refine g_iconst (q := 3) (v := nI 4) hx d_Mo_putKind_2 rfl (by decide) ?_
    refine g_iload_n (q := 4) hx d_Mo_putKind_3 rfl rfl ?_
    refine g_imul (q := 5) hx d_Mo_putKind_4 rfl (pk_mul _ _) ?_
    refine g_iadd (q := 6) hx d_Mo_putKind_5 rfl (nI_add _ _) ?_
    refine g_istore_n (q := 7) (lc' := [(3, _), (0, _), (1, _), (2, _)]) hx d_Mo_putKind_6 rfl (by decide) rfl ?_
    refine g_aload_n (q := 8) hx d_Mo_putKind_7 rfl rfl ?_
    refine g_iload_n (q := 9) hx d_Mo_putKind_8 rfl rfl ?_
    refine g_iload_n (q := 10) hx d_Mo_putKind_9 rfl rfl ?_
    refine g_if_ne (q := 13) (t := 17) hx d_Mo_putKind_10 rfl rfl (zb_ne0 (by omega)) (fun h10 => ?_) (fun h10 => ?_)
    · refine g_iconst (q := 18) (v := nI 1) hx d_Mo_putKind_17 rfl (by decide) ?_
      refine g_cv (q := 21) (zrunV hx d_Mo_putKind_18 lk_Mo_108 rfl rfl hq.g0 rfl rfl (Nat.le_of_ble_eq_true rfl) (by decide) (by omega) (by omega) (c_Mo_putN _ E Γ n M0 _ m _ _ _ _ hq hI)) rfl (fun M18 p18 => ?_)
      replace hI := p18
      refine g_iload_n (q := 22) hx d_Mo_putKind_21 rfl rfl ?_
      refine g_if_eq (q := 25) (t := 42) hx d_Mo_putKind_22 rfl rfl (zb_eq0 (by omega)) (fun h22 => ?_) (fun h22 => ?_)
      · exact absurd h22 (by omega)
      · refine g_aload_n (q := 26) hx d_Mo_putKind_25 rfl rfl ?_
        refine g_iload_n (q := 27) hx d_Mo_putKind_26 rfl rfl ?_
        refine g_iconst (q := 28) (v := nI 1) hx d_Mo_putKind_27 rfl (by decide) ?_
        refine g_iadd (q := 29) hx d_Mo_putKind_28 rfl (nI_add _ _) ?_
        refine g_iload_n (q := 30) hx d_Mo_putKind_29 rfl rfl ?_
        refine g_iconst (q := 31) (v := nI 4) hx d_Mo_putKind_30 rfl (by decide) ?_
        refine g_icmp_ne (q := 34) (t := 38) hx d_Mo_putKind_31 rfl rfl (not_congr (nI_eq (by omega) (by omega))) (fun h31 => ?_) (fun h31 => ?_)
        · refine g_iconst (q := 39) (v := nI 1) hx d_Mo_putKind_38 rfl (by decide) ?_
          refine g_cv (q := 42) (zrunV hx d_Mo_putKind_39 lk_Mo_108 rfl rfl hq.g0 rfl rfl (Nat.le_of_ble_eq_true rfl) (by decide) (by omega) (by omega) (c_Mo_putN _ E Γ n M0 _ m _ _ _ _ hq hI)) rfl (fun M39 p39 => ?_)
          replace hI := p39
          refine g_iload_n (q := 43) hx d_Mo_putKind_42 rfl rfl ?_
          refine g_iconst (q := 44) (v := nI 1) hx d_Mo_putKind_43 rfl (by decide) ?_
          refine g_icmp_eq (q := 47) (t := 57) hx d_Mo_putKind_44 rfl rfl (nI_eq (by omega) (by omega)) (fun h44 => ?_) (fun h44 => ?_)
          · exact absurd h44 (by omega)
          · refine g_iload_n (q := 48) hx d_Mo_putKind_47 rfl rfl ?_
            refine g_iconst (q := 49) (v := nI 2) hx d_Mo_putKind_48 rfl (by decide) ?_
            refine g_icmp_eq (q := 52) (t := 57) hx d_Mo_putKind_49 rfl rfl (nI_eq (by omega) (by omega)) (fun h49 => ?_) (fun h49 => ?_)
            · exact absurd h49 (by omega)
            · refine g_iload_n (q := 53) hx d_Mo_putKind_52 rfl rfl ?_
              refine g_iconst (q := 54) (v := nI 3) hx d_Mo_putKind_53 rfl (by decide) ?_
              refine g_icmp_ne (q := 57) (t := 74) hx d_Mo_putKind_54 rfl rfl (not_congr (nI_eq (by omega) (by omega))) (fun h54 => ?_) (fun h54 => ?_)
              · exact absurd h54 (by omega)
              · refine g_aload_n (q := 58) hx d_Mo_putKind_57 rfl rfl ?_
                refine g_iload_n (q := 59) hx d_Mo_putKind_58 rfl rfl ?_
                refine g_iconst (q := 60) (v := nI 2) hx d_Mo_putKind_59 rfl (by decide) ?_
                refine g_iadd (q := 61) hx d_Mo_putKind_60 rfl (nI_add _ _) ?_
                refine g_iload_n (q := 62) hx d_Mo_putKind_61 rfl rfl ?_
                refine g_iconst (q := 63) (v := nI 1) hx d_Mo_putKind_62 rfl (by decide) ?_
                refine g_icmp_ne (q := 66) (t := 70) hx d_Mo_putKind_63 rfl rfl (not_congr (nI_eq (by omega) (by omega))) (fun h63 => ?_) (fun h63 => ?_)
                · refine g_iconst (q := 71) (v := nI 1) hx d_Mo_putKind_70 rfl (by decide) ?_
                  refine g_cv (q := 74) (zrunV hx d_Mo_putKind_71 lk_Mo_108 rfl rfl hq.g0 rfl rfl (Nat.le_of_ble_eq_true rfl) (by decide) (by omega) (by omega) (c_Mo_putN _ E Γ n M0 _ m _ _ _ _ hq hI)) rfl (fun M71 p71 => ?_)
                  replace hI := p71
                  refine g_iload_n (q := 75) hx d_Mo_putKind_74 rfl rfl ?_
                  refine g_iconst (q := 76) (v := nI 2) hx d_Mo_putKind_75 rfl (by decide) ?_
                  refine g_icmp_eq (q := 79) (t := 84) hx d_Mo_putKind_76 rfl rfl (nI_eq (by omega) (by omega)) (fun h76 => ?_) (fun h76 => ?_)
                  · exact absurd h76 (by omega)
                  · refine g_iload_n (q := 80) hx d_Mo_putKind_79 rfl rfl ?_
                    refine g_iconst (q := 81) (v := nI 3) hx d_Mo_putKind_80 rfl (by decide) ?_
                    refine g_icmp_ne (q := 84) (t := 101) hx d_Mo_putKind_81 rfl rfl (not_congr (nI_eq (by omega) (by omega))) (fun h81 => ?_) (fun h81 => ?_)
                    · exact absurd h81 (by omega)
                    · refine g_aload_n (q := 85) hx d_Mo_putKind_84 rfl rfl ?_
                      refine g_iload_n (q := 86) hx d_Mo_putKind_85 rfl rfl ?_
                      refine g_iconst (q := 87) (v := nI 3) hx d_Mo_putKind_86 rfl (by decide) ?_
                      refine g_iadd (q := 88) hx d_Mo_putKind_87 rfl (nI_add _ _) ?_
                      refine g_iload_n (q := 89) hx d_Mo_putKind_88 rfl rfl ?_
                      refine g_iconst (q := 90) (v := nI 2) hx d_Mo_putKind_89 rfl (by decide) ?_
                      refine g_icmp_ne (q := 93) (t := 97) hx d_Mo_putKind_90 rfl rfl (not_congr (nI_eq (by omega) (by omega))) (fun h90 => ?_) (fun h90 => ?_)
                      · refine g_iconst (q := 98) (v := nI 1) hx d_Mo_putKind_97 rfl (by decide) ?_
                        refine g_cv (q := 101) (zrunV hx d_Mo_putKind_98 lk_Mo_108 rfl rfl hq.g0 rfl rfl (Nat.le_of_ble_eq_true rfl) (by decide) (by omega) (by omega) (c_Mo_putN _ E Γ n M0 _ m _ _ _ _ hq hI)) rfl (fun M98 p98 => ?_)
                        replace hI := p98
                        exact g_vret hx d_Mo_putKind_101 rfl hQ ⟨Nat.le_refl _, Nat.le_refl _⟩ ⟨rfl, rfl, rfl, by rw [hKs]; exact hI⟩
                      · exact absurd h90 (by omega)
                · exact absurd h63 (by omega)
        · exact absurd h31 (by omega)
    · exact absurd h10 (by omega)
  · have hKe : mKind b 4 = [(27 + 4 * b, 1), (27 + 4 * b + 1, 0)] := rfl
    have hKs : mPuts s (mKind b 4) = mPut (mPut s (27 + 4 * b, 1)) (27 + 4 * b + 1, 0) := by rw [hKe]; simp only [mPuts_cons, mPuts_nil]
    rw [hKe] at hI
    simp only [List.cons_append, List.nil_append] at hI
    refine g_bipush (q := 2) (v := nI 27) hx d_Mo_putKind_0 rfl (by decide) ?_
    refine g_iconst (q := 3) (v := nI 4) hx d_Mo_putKind_2 rfl (by decide) ?_
    refine g_iload_n (q := 4) hx d_Mo_putKind_3 rfl rfl ?_
    refine g_imul (q := 5) hx d_Mo_putKind_4 rfl (pk_mul _ _) ?_
    refine g_iadd (q := 6) hx d_Mo_putKind_5 rfl (nI_add _ _) ?_
    refine g_istore_n (q := 7) (lc' := [(3, _), (0, _), (1, _), (2, _)]) hx d_Mo_putKind_6 rfl (by decide) rfl ?_
    refine g_aload_n (q := 8) hx d_Mo_putKind_7 rfl rfl ?_
    refine g_iload_n (q := 9) hx d_Mo_putKind_8 rfl rfl ?_
    refine g_iload_n (q := 10) hx d_Mo_putKind_9 rfl rfl ?_
    refine g_if_ne (q := 13) (t := 17) hx d_Mo_putKind_10 rfl rfl (zb_ne0 (by omega)) (fun h10 => ?_) (fun h10 => ?_)
    · refine g_iconst (q := 18) (v := nI 1) hx d_Mo_putKind_17 rfl (by decide) ?_
      refine g_cv (q := 21) (zrunV hx d_Mo_putKind_18 lk_Mo_108 rfl rfl hq.g0 rfl rfl (Nat.le_of_ble_eq_true rfl) (by decide) (by omega) (by omega) (c_Mo_putN _ E Γ n M0 _ m _ _ _ _ hq hI)) rfl (fun M18 p18 => ?_)
      replace hI := p18
      refine g_iload_n (q := 22) hx d_Mo_putKind_21 rfl rfl ?_
      refine g_if_eq (q := 25) (t := 42) hx d_Mo_putKind_22 rfl rfl (zb_eq0 (by omega)) (fun h22 => ?_) (fun h22 => ?_)
      · exact absurd h22 (by omega)
      · refine g_aload_n (q := 26) hx d_Mo_putKind_25 rfl rfl ?_
        refine g_iload_n (q := 27) hx d_Mo_putKind_26 rfl rfl ?_
        refine g_iconst (q := 28) (v := nI 1) hx d_Mo_putKind_27 rfl (by decide) ?_
        refine g_iadd (q := 29) hx d_Mo_putKind_28 rfl (nI_add _ _) ?_
        refine g_iload_n (q := 30) hx d_Mo_putKind_29 rfl rfl ?_
        refine g_iconst (q := 31) (v := nI 4) hx d_Mo_putKind_30 rfl (by decide) ?_
        refine g_icmp_ne (q := 34) (t := 38) hx d_Mo_putKind_31 rfl rfl (not_congr (nI_eq (by omega) (by omega))) (fun h31 => ?_) (fun h31 => ?_)
        · exact absurd h31 (by omega)
        · refine g_iconst (q := 35) (v := nI 0) hx d_Mo_putKind_34 rfl (by decide) ?_
          refine g_goto (q := 39) hx d_Mo_putKind_35 rfl ?_
          refine g_cv (q := 42) (zrunV hx d_Mo_putKind_39 lk_Mo_108 rfl rfl hq.g0 rfl rfl (Nat.le_of_ble_eq_true rfl) (by decide) (by omega) (by omega) (c_Mo_putN _ E Γ n M0 _ m _ _ _ _ hq hI)) rfl (fun M39 p39 => ?_)
          replace hI := p39
          refine g_iload_n (q := 43) hx d_Mo_putKind_42 rfl rfl ?_
          refine g_iconst (q := 44) (v := nI 1) hx d_Mo_putKind_43 rfl (by decide) ?_
          refine g_icmp_eq (q := 47) (t := 57) hx d_Mo_putKind_44 rfl rfl (nI_eq (by omega) (by omega)) (fun h44 => ?_) (fun h44 => ?_)
          · exact absurd h44 (by omega)
          · refine g_iload_n (q := 48) hx d_Mo_putKind_47 rfl rfl ?_
            refine g_iconst (q := 49) (v := nI 2) hx d_Mo_putKind_48 rfl (by decide) ?_
            refine g_icmp_eq (q := 52) (t := 57) hx d_Mo_putKind_49 rfl rfl (nI_eq (by omega) (by omega)) (fun h49 => ?_) (fun h49 => ?_)
            · exact absurd h49 (by omega)
            · refine g_iload_n (q := 53) hx d_Mo_putKind_52 rfl rfl ?_
              refine g_iconst (q := 54) (v := nI 3) hx d_Mo_putKind_53 rfl (by decide) ?_
              refine g_icmp_ne (q := 57) (t := 74) hx d_Mo_putKind_54 rfl rfl (not_congr (nI_eq (by omega) (by omega))) (fun h54 => ?_) (fun h54 => ?_)
              · refine g_iload_n (q := 75) hx d_Mo_putKind_74 rfl rfl ?_
                refine g_iconst (q := 76) (v := nI 2) hx d_Mo_putKind_75 rfl (by decide) ?_
                refine g_icmp_eq (q := 79) (t := 84) hx d_Mo_putKind_76 rfl rfl (nI_eq (by omega) (by omega)) (fun h76 => ?_) (fun h76 => ?_)
                · exact absurd h76 (by omega)
                · refine g_iload_n (q := 80) hx d_Mo_putKind_79 rfl rfl ?_
                  refine g_iconst (q := 81) (v := nI 3) hx d_Mo_putKind_80 rfl (by decide) ?_
                  refine g_icmp_ne (q := 84) (t := 101) hx d_Mo_putKind_81 rfl rfl (not_congr (nI_eq (by omega) (by omega))) (fun h81 => ?_) (fun h81 => ?_)
                  · exact g_vret hx d_Mo_putKind_101 rfl hQ ⟨Nat.le_refl _, Nat.le_refl _⟩ ⟨rfl, rfl, rfl, by rw [hKs]; exact hI⟩
                  · exact absurd h81 (by omega)
              · exact absurd h54 (by omega)
    · exact absurd h10 (by omega)
set_option maxHeartbeats 4000000 in
set_option maxRecDepth 100000 in
theorem c_Mo_putRead (l : Launch) (E : zE) (Γ : zG) (n : Nat) (M0 M : zM) (m : Nat) (r b len : Nat) (ref : Nat → Nat) (rd : mRd) (s : mEn) (lst : List (Nat × Nat)) (hq : qX Γ M0.2.2 m) (hI : qC M0 m M (s, mRead ref b rd ++ lst)) (hS : qS M0 m r rd) (hr : r < 31) (hR : qR M0 m len ref) (hok : mOk ref len rd) (hb : b ≤ rd.1) :
    zCt l E Y_Mo_putRead 3 (0, 0) [.ref m, .int (nI r), .int (nI b)] Γ n M (zPv Γ n (fun M' => qC M0 m M' (mPuts s (mRead ref b rd), lst))) := by
  refine zCt.of [(0, .ref m), (1, .int (nI r)), (2, .int (nI b))] (by decide) (Nat.le_of_ble_eq_true rfl) rfl (fun f hfl hx hQ => ?_)
  have hm0 := hq.m0
  have hP := hI.1.r
  obtain ⟨hk1, hfit, hk3, hk4'⟩ := hok
  have hl160 := hR.2.2.1
  have hr4 := hR.2.2.2
  unfold mRead at hI
  rw [List.append_assoc] at hI
  have loop : ∀ (i : Nat) (M1 : zM), ∀ (s1 : mEn) (at_ bf : Nat), i ≤ rd.2.length → qC M0 m M1 (s1, mEds ref at_ bf (rd.2.drop i) ++ lst) → mPuts s1 (mEds ref at_ bf (rd.2.drop i)) = mPuts s (mRead ref b rd) → mFits ref len at_ (rd.2.drop i) → bf < 5 → zGo f E Γ n (0, 0) M1 29 [(5, .int (nI (12 * r + i))), (4, .int (nI bf)), (3, .int (nI at_)), (0, .ref m), (1, .int (nI r)), (2, .int (nI b))] [] := by
    refine z_lp (fun i => rd.2.length - i) _ ?_
    intro i M1 ih s1 at_ bf hi hI hF hfi hbf
    replace hP := hI.1.r
    obtain ⟨q1, q2, q3, q4, q5⟩ := hS.kp hI.1 rfl rfl rfl rfl rfl rfl
    refine g_iload (q := 31) hx d_Mo_putRead_29 rfl rfl ?_
    refine g_bipush (q := 33) (v := nI 12) hx d_Mo_putRead_31 rfl (by decide) ?_
    refine g_iload_n (q := 34) hx d_Mo_putRead_33 rfl rfl ?_
    refine g_imul (q := 35) hx d_Mo_putRead_34 rfl (pk_mul _ _) ?_
    refine g_aload_n (q := 36) hx d_Mo_putRead_35 rfl rfl ?_
    refine g_geta (q := 39) hx d_Mo_putRead_36 rfl fl_Mo_16 hq.g0 (hq.p3 hP) (by first | exact Nat.succ_ne_zero _ | omega) ?_
    refine g_iload_n (q := 40) hx d_Mo_putRead_39 rfl rfl ?_
    refine g_iald (q := 41) hx d_Mo_putRead_40 rfl hq.g3 rfl (by omega) (by decide) q2 ?_
    refine g_iadd (q := 42) hx d_Mo_putRead_41 rfl (nI_add _ _) ?_
    refine g_icmp_ge (q := 45) (t := 231) hx d_Mo_putRead_42 rfl rfl (nI_leI (by omega) (by omega)) (fun h42 => ?_) (fun h42 => ?_)
    · have hde : rd.2.drop i = [] := List.drop_eq_nil_of_le (by omega)
      rw [hde] at hI hF
      simp only [mEds] at hI hF
      refine g_aload_n (q := 232) hx d_Mo_putRead_231 rfl rfl ?_
      refine g_iload (q := 234) hx d_Mo_putRead_232 rfl rfl ?_
      refine g_iconst (q := 235) (v := nI 4) hx d_Mo_putRead_234 rfl (by decide) ?_
      refine g_cv (q := 238) (zrunV hx d_Mo_putRead_235 lk_Mo_114 rfl rfl hq.g0 rfl rfl (Nat.le_of_ble_eq_true rfl) (by decide) (by omega) (by omega) (c_Mo_putKind _ E Γ n M0 _ m bf 4 _ _ hq hbf (by omega) hI)) rfl (fun M235 p235 => ?_)
      replace hI := p235
      exact g_vret hx d_Mo_putRead_238 rfl hQ ⟨Nat.le_refl _, Nat.le_refl _⟩ ⟨rfl, rfl, rfl, by rw [← hF]; exact hI⟩
    · have hdr := m_drop (es := rd.2) (i := i) (by omega)
      have q5i := q5 i (by omega)
      generalize mK rd.2 i = k at hdr q5i
      generalize mV rd.2 i = v at hdr q5i
      rw [hdr] at hI hF hfi
      obtain ⟨hf1, hfi2⟩ := hfi
      have hk4 : k < 4 := mFit_kind hf1
      have hv161 : v < 161 := by
        have hf2 := hf1
        unfold mFit at hf2
        dsimp only at hf2
        omega
      have hf03 : (k = 0 ∨ k = 3) → 1 ≤ v := fun hk9 => by
        have hf2 := hf1
        unfold mFit at hf2
        dsimp only at hf2
        omega
      have hf12 : k = 1 → at_ < len ∧ v < 4 ∧ ref at_ ≠ v := fun hk9 => by
        have hf2 := hf1
        unfold mFit at hf2
        dsimp only at hf2
        omega
      simp only [mEds, List.append_assoc] at hI
      simp only [mEds, mPuts_app] at hF
      refine g_aload_n (q := 46) hx d_Mo_putRead_45 rfl rfl ?_
      refine g_geta (q := 49) hx d_Mo_putRead_46 rfl fl_Mo_25 hq.g0 (hq.p6 hP) (by first | exact Nat.succ_ne_zero _ | omega) ?_
      refine g_iload (q := 51) hx d_Mo_putRead_49 rfl rfl ?_
      refine g_iald (q := 52) hx d_Mo_putRead_51 rfl hq.g6 rfl (by omega) (by decide) q5i.1 ?_
      refine g_istore (q := 54) (lc' := [(6, _), (5, _), (4, _), (3, _), (0, _), (1, _), (2, _)]) hx d_Mo_putRead_52 rfl (by decide) rfl ?_
      refine g_aload_n (q := 55) hx d_Mo_putRead_54 rfl rfl ?_
      refine g_geta (q := 58) hx d_Mo_putRead_55 rfl fl_Mo_28 hq.g0 (hq.p7 hP) (by first | exact Nat.succ_ne_zero _ | omega) ?_
      refine g_iload (q := 60) hx d_Mo_putRead_58 rfl rfl ?_
      refine g_iald (q := 61) hx d_Mo_putRead_60 rfl hq.g7 rfl (by omega) (by decide) q5i.2 ?_
      refine g_istore (q := 63) (lc' := [(7, _), (6, _), (5, _), (4, _), (3, _), (0, _), (1, _), (2, _)]) hx d_Mo_putRead_61 rfl (by decide) rfl ?_
      refine g_aload_n (q := 64) hx d_Mo_putRead_63 rfl rfl ?_
      refine g_iload (q := 66) hx d_Mo_putRead_64 rfl rfl ?_
      refine g_iload (q := 68) hx d_Mo_putRead_66 rfl rfl ?_
      refine g_cv (q := 71) (zrunV hx d_Mo_putRead_68 lk_Mo_114 rfl rfl hq.g0 rfl rfl (Nat.le_of_ble_eq_true rfl) (by decide) (by omega) (by omega) (c_Mo_putKind _ E Γ n M0 _ m bf k _ _ hq hbf (by omega) hI)) rfl (fun M68 p68 => ?_)
      replace hI := p68
      replace hP := hI.1.r
      have hR1 := hR.kp hI.1 rfl rfl
      refine g_iload (q := 73) hx d_Mo_putRead_71 rfl rfl ?_
      refine g_istore (q := 75) (lc' := [(4, _), (7, _), (6, _), (5, _), (3, _), (0, _), (1, _), (2, _)]) hx d_Mo_putRead_73 rfl (by decide) rfl ?_
      refine g_iload (q := 77) hx d_Mo_putRead_75 rfl rfl ?_
      refine g_if_eq (q := 80) (t := 86) hx d_Mo_putRead_77 rfl rfl (zb_eq0 (by omega)) (fun h77 => ?_) (fun h77 => ?_)
      · obtain rfl : k = 0 := (by omega)
        have hv1 := hf03 (by omega)
        rw [show mEdN ref at_ (0, v) = mNum 1 (v - 1) from rfl] at hI hF
        refine g_aload_n (q := 87) hx d_Mo_putRead_86 rfl rfl ?_
        refine g_iload (q := 89) hx d_Mo_putRead_87 rfl rfl ?_
        refine g_if_ne (q := 92) (t := 96) hx d_Mo_putRead_89 rfl rfl (zb_ne0 (by omega)) (fun h89 => ?_) (fun h89 => ?_)
        · exact absurd h77 h89
        · refine g_iconst (q := 93) (v := nI 1) hx d_Mo_putRead_92 rfl (by decide) ?_
          refine g_goto (q := 97) hx d_Mo_putRead_93 rfl ?_
          refine g_iload (q := 99) hx d_Mo_putRead_97 rfl rfl ?_
          refine g_iconst (q := 100) (v := nI 1) hx d_Mo_putRead_99 rfl (by decide) ?_
          refine g_isub (q := 101) hx d_Mo_putRead_100 rfl (pk_sub (by omega)) ?_
          refine g_cv (q := 104) (zrunV hx d_Mo_putRead_101 lk_Mo_111 rfl rfl hq.g0 rfl rfl (Nat.le_of_ble_eq_true rfl) (by decide) (by omega) (by omega) (c_Mo_putNumber _ E Γ n M0 _ m 1 (v - 1) _ _ hq (by omega) (by omega) hI)) rfl (fun M101 p101 => ?_)
          replace hI := p101
          refine g_iload_n (q := 105) hx d_Mo_putRead_104 rfl rfl ?_
          refine g_iload (q := 107) hx d_Mo_putRead_105 rfl rfl ?_
          refine g_iadd (q := 108) hx d_Mo_putRead_107 rfl (nI_add _ _) ?_
          refine g_istore_n (q := 109) (lc' := [(3, _), (4, _), (7, _), (6, _), (5, _), (0, _), (1, _), (2, _)]) hx d_Mo_putRead_108 rfl (by decide) rfl ?_
          refine g_goto (q := 225) hx d_Mo_putRead_109 rfl ?_
          refine g_iinc (q := 228) (lc' := [(5, _), (3, _), (4, _), (7, _), (6, _), (0, _), (1, _), (2, _)]) hx d_Mo_putRead_225 rfl rfl (z_inc _) (by decide) rfl ?_
          refine g_goto (q := 29) hx d_Mo_putRead_228 rfl ?_
          have e9 : at_ + mAdv (0, v) = at_ + v := rfl
          rw [e9] at hI hF hfi2
          refine z_perm (lc' := [(5, .int (nI (12 * r + i + 1))), (4, .int (nI 0)), (3, .int (nI (at_ + v))), (0, .ref m), (1, .int (nI r)), (2, .int (nI b))]) (fun q hq => by simp only [List.mem_cons, List.not_mem_nil, or_false] at hq ⊢; rcases hq with h | h | h | h | h | h <;> simp [h]) ?_
          exact ih (i + 1) M101 (by show rd.2.length - (i + 1) < rd.2.length - i; omega) _ _ 0 (by omega) hI hF hfi2 (by omega)
      · refine g_iload (q := 82) hx d_Mo_putRead_80 rfl rfl ?_
        refine g_iconst (q := 83) (v := nI 3) hx d_Mo_putRead_82 rfl (by decide) ?_
        refine g_icmp_ne (q := 86) (t := 112) hx d_Mo_putRead_83 rfl rfl (not_congr (nI_eq (by omega) (by omega))) (fun h83 => ?_) (fun h83 => ?_)
        · refine g_iload (q := 114) hx d_Mo_putRead_112 rfl rfl ?_
          refine g_iconst (q := 115) (v := nI 1) hx d_Mo_putRead_114 rfl (by decide) ?_
          refine g_icmp_ne (q := 118) (t := 200) hx d_Mo_putRead_115 rfl rfl (not_congr (nI_eq (by omega) (by omega))) (fun h115 => ?_) (fun h115 => ?_)
          · obtain rfl : k = 2 := (by omega)
            rw [show mEdN ref at_ (2, v) = [(55, v / 2), (56 + v / 2, v % 2)] from rfl] at hI hF
            simp only [List.cons_append, List.nil_append] at hI
            simp only [mPuts_cons, mPuts_nil] at hF
            refine g_aload_n (q := 201) hx d_Mo_putRead_200 rfl rfl ?_
            refine g_bipush (q := 203) (v := nI 55) hx d_Mo_putRead_201 rfl (by decide) ?_
            refine g_iload (q := 205) hx d_Mo_putRead_203 rfl rfl ?_
            refine g_iconst (q := 206) (v := nI 2) hx d_Mo_putRead_205 rfl (by decide) ?_
            refine g_idiv (q := 207) hx d_Mo_putRead_206 rfl (nI_ne0 (by omega) (by omega)) (pk_div (by omega) (by omega) (by omega)) ?_
            refine g_cv (q := 210) (zrunV hx d_Mo_putRead_207 lk_Mo_108 rfl rfl hq.g0 rfl rfl (Nat.le_of_ble_eq_true rfl) (by decide) (by omega) (by omega) (c_Mo_putN _ E Γ n M0 _ m _ _ _ _ hq hI)) rfl (fun M207 p207 => ?_)
            replace hI := p207
            refine g_aload_n (q := 211) hx d_Mo_putRead_210 rfl rfl ?_
            refine g_bipush (q := 213) (v := nI 56) hx d_Mo_putRead_211 rfl (by decide) ?_
            refine g_iload (q := 215) hx d_Mo_putRead_213 rfl rfl ?_
            refine g_iconst (q := 216) (v := nI 2) hx d_Mo_putRead_215 rfl (by decide) ?_
            refine g_idiv (q := 217) hx d_Mo_putRead_216 rfl (nI_ne0 (by omega) (by omega)) (pk_div (by omega) (by omega) (by omega)) ?_
            refine g_iadd (q := 218) hx d_Mo_putRead_217 rfl (nI_add _ _) ?_
            refine g_iload (q := 220) hx d_Mo_putRead_218 rfl rfl ?_
            refine g_iconst (q := 221) (v := nI 2) hx d_Mo_putRead_220 rfl (by decide) ?_
            refine g_irem (q := 222) hx d_Mo_putRead_221 rfl (nI_ne0 (by omega) (by omega)) (pk_rem (by omega) (by omega) (by omega)) ?_
            refine g_cv (q := 225) (zrunV hx d_Mo_putRead_222 lk_Mo_108 rfl rfl hq.g0 rfl rfl (Nat.le_of_ble_eq_true rfl) (by decide) (by omega) (by omega) (c_Mo_putN _ E Γ n M0 _ m _ _ _ _ hq hI)) rfl (fun M222 p222 => ?_)
            replace hI := p222
            refine g_iinc (q := 228) (lc' := [(5, _), (4, _), (7, _), (6, _), (3, _), (0, _), (1, _), (2, _)]) hx d_Mo_putRead_225 rfl rfl (z_inc _) (by decide) rfl ?_
            refine g_goto (q := 29) hx d_Mo_putRead_228 rfl ?_
            have e9 : at_ + mAdv (2, v) = at_ := rfl
            rw [e9] at hI hF hfi2
            refine z_perm (lc' := [(5, .int (nI (12 * r + i + 1))), (4, .int (nI 2)), (3, .int (nI (at_))), (0, .ref m), (1, .int (nI r)), (2, .int (nI b))]) (fun q hq => by simp only [List.mem_cons, List.not_mem_nil, or_false] at hq ⊢; rcases hq with h | h | h | h | h | h <;> simp [h]) ?_
            exact ih (i + 1) M222 (by show rd.2.length - (i + 1) < rd.2.length - i; omega) _ _ 2 (by omega) hI hF hfi2 (by omega)
          · obtain rfl : k = 1 := (by omega)
            have hat : at_ < len := (hf12 rfl).1
            have hv4 := (hf12 rfl).2.1
            have hvn := (hf12 rfl).2.2
            have hra := hR.2.2.2 at_
            rw [show mEdN ref at_ (1, v) = if mChg (ref at_) v = 0 then [(47 + 2 * ref at_, 0)] else [(47 + 2 * ref at_, 1), (47 + 2 * ref at_ + 1, if mChg (ref at_) v = 1 then 0 else 1)] from rfl] at hI hF
            refine g_aload_n (q := 119) hx d_Mo_putRead_118 rfl rfl ?_
            refine g_geta (q := 122) hx d_Mo_putRead_119 rfl fl_Mo_7 hq.g0 (hq.p1 hP) (by first | exact Nat.succ_ne_zero _ | omega) ?_
            refine g_iload_n (q := 123) hx d_Mo_putRead_122 rfl rfl ?_
            refine g_iald (q := 124) hx d_Mo_putRead_123 rfl hq.g1 rfl (by omega) (by decide) (hR1.2.1 at_ hat) ?_
            refine g_istore (q := 126) (lc' := [(8, _), (4, _), (7, _), (6, _), (5, _), (3, _), (0, _), (1, _), (2, _)]) hx d_Mo_putRead_124 rfl (by decide) rfl ?_
            refine g_iload (q := 128) hx d_Mo_putRead_126 rfl rfl ?_
            refine g_iload (q := 130) hx d_Mo_putRead_128 rfl rfl ?_
            refine g_icmp_ge (q := 133) (t := 138) hx d_Mo_putRead_130 rfl rfl (nI_leI (by omega) (by omega)) (fun h130 => ?_) (fun h130 => ?_)
            · refine g_iload (q := 140) hx d_Mo_putRead_138 rfl rfl ?_
              refine g_iconst (q := 141) (v := nI 1) hx d_Mo_putRead_140 rfl (by decide) ?_
              refine g_isub (q := 142) hx d_Mo_putRead_141 rfl (pk_sub (by omega)) ?_
              rw [show mChg (ref at_) v = v - 1 from if_neg (by omega)] at hI hF
              refine g_istore (q := 144) (lc' := [(9, _), (8, _), (4, _), (7, _), (6, _), (5, _), (3, _), (0, _), (1, _), (2, _)]) hx d_Mo_putRead_142 rfl (by decide) rfl ?_
              refine g_aload_n (q := 145) hx d_Mo_putRead_144 rfl rfl ?_
              refine g_bipush (q := 147) (v := nI 47) hx d_Mo_putRead_145 rfl (by decide) ?_
              refine g_iconst (q := 148) (v := nI 2) hx d_Mo_putRead_147 rfl (by decide) ?_
              refine g_iload (q := 150) hx d_Mo_putRead_148 rfl rfl ?_
              refine g_imul (q := 151) hx d_Mo_putRead_150 rfl (pk_mul _ _) ?_
              refine g_iadd (q := 152) hx d_Mo_putRead_151 rfl (nI_add _ _) ?_
              refine g_iload (q := 154) hx d_Mo_putRead_152 rfl rfl ?_
              refine g_if_ne (q := 157) (t := 161) hx d_Mo_putRead_154 rfl rfl (zb_ne0 (by omega)) (fun h154 => ?_) (fun h154 => ?_)
              · rw [if_neg (by omega)] at hI hF
                simp only [List.cons_append, List.nil_append] at hI
                simp only [mPuts_cons, mPuts_nil] at hF
                refine g_iconst (q := 162) (v := nI 1) hx d_Mo_putRead_161 rfl (by decide) ?_
                refine g_cv (q := 165) (zrunV hx d_Mo_putRead_162 lk_Mo_108 rfl rfl hq.g0 rfl rfl (Nat.le_of_ble_eq_true rfl) (by decide) (by omega) (by omega) (c_Mo_putN _ E Γ n M0 _ m _ _ _ _ hq hI)) rfl (fun M162 p162 => ?_)
                replace hI := p162
                refine g_iload (q := 167) hx d_Mo_putRead_165 rfl rfl ?_
                refine g_if_le (q := 170) (t := 194) hx d_Mo_putRead_167 rfl rfl (zb_le0 (by omega)) (fun h167 => ?_) (fun h167 => ?_)
                · exact absurd (by omega) h154
                · refine g_aload_n (q := 171) hx d_Mo_putRead_170 rfl rfl ?_
                  refine g_bipush (q := 173) (v := nI 47) hx d_Mo_putRead_171 rfl (by decide) ?_
                  refine g_iconst (q := 174) (v := nI 2) hx d_Mo_putRead_173 rfl (by decide) ?_
                  refine g_iload (q := 176) hx d_Mo_putRead_174 rfl rfl ?_
                  refine g_imul (q := 177) hx d_Mo_putRead_176 rfl (pk_mul _ _) ?_
                  refine g_iadd (q := 178) hx d_Mo_putRead_177 rfl (nI_add _ _) ?_
                  refine g_iconst (q := 179) (v := nI 1) hx d_Mo_putRead_178 rfl (by decide) ?_
                  refine g_iadd (q := 180) hx d_Mo_putRead_179 rfl (nI_add _ _) ?_
                  refine g_iload (q := 182) hx d_Mo_putRead_180 rfl rfl ?_
                  refine g_iconst (q := 183) (v := nI 1) hx d_Mo_putRead_182 rfl (by decide) ?_
                  refine g_icmp_ne (q := 186) (t := 190) hx d_Mo_putRead_183 rfl rfl (not_congr (nI_eq (by omega) (by omega))) (fun h183 => ?_) (fun h183 => ?_)
                  · rw [if_neg (by omega)] at hI hF
                    refine g_iconst (q := 191) (v := nI 1) hx d_Mo_putRead_190 rfl (by decide) ?_
                    refine g_cv (q := 194) (zrunV hx d_Mo_putRead_191 lk_Mo_108 rfl rfl hq.g0 rfl rfl (Nat.le_of_ble_eq_true rfl) (by decide) (by omega) (by omega) (c_Mo_putN _ E Γ n M0 _ m _ _ _ _ hq hI)) rfl (fun M191 p191 => ?_)
                    replace hI := p191
                    refine g_iinc (q := 197) (lc' := [(3, _), (9, _), (8, _), (4, _), (7, _), (6, _), (5, _), (0, _), (1, _), (2, _)]) hx d_Mo_putRead_194 rfl rfl (z_inc _) (by decide) rfl ?_
                    refine g_goto (q := 225) hx d_Mo_putRead_197 rfl ?_
                    refine g_iinc (q := 228) (lc' := [(5, _), (3, _), (9, _), (8, _), (4, _), (7, _), (6, _), (0, _), (1, _), (2, _)]) hx d_Mo_putRead_225 rfl rfl (z_inc _) (by decide) rfl ?_
                    refine g_goto (q := 29) hx d_Mo_putRead_228 rfl ?_
                    have e9 : at_ + mAdv (1, v) = at_ + 1 := rfl
                    rw [e9] at hI hF hfi2
                    refine z_perm (lc' := [(5, .int (nI (12 * r + i + 1))), (4, .int (nI 1)), (3, .int (nI (at_ + 1))), (0, .ref m), (1, .int (nI r)), (2, .int (nI b))]) (fun q hq => by simp only [List.mem_cons, List.not_mem_nil, or_false] at hq ⊢; rcases hq with h | h | h | h | h | h <;> simp [h]) ?_
                    exact ih (i + 1) M191 (by show rd.2.length - (i + 1) < rd.2.length - i; omega) _ _ 1 (by omega) hI hF hfi2 (by omega)
                  · rw [if_pos (by omega)] at hI hF
                    refine g_iconst (q := 187) (v := nI 0) hx d_Mo_putRead_186 rfl (by decide) ?_
                    refine g_goto (q := 191) hx d_Mo_putRead_187 rfl ?_
                    refine g_cv (q := 194) (zrunV hx d_Mo_putRead_191 lk_Mo_108 rfl rfl hq.g0 rfl rfl (Nat.le_of_ble_eq_true rfl) (by decide) (by omega) (by omega) (c_Mo_putN _ E Γ n M0 _ m _ _ _ _ hq hI)) rfl (fun M191 p191 => ?_)
                    replace hI := p191
                    refine g_iinc (q := 197) (lc' := [(3, _), (9, _), (8, _), (4, _), (7, _), (6, _), (5, _), (0, _), (1, _), (2, _)]) hx d_Mo_putRead_194 rfl rfl (z_inc _) (by decide) rfl ?_
                    refine g_goto (q := 225) hx d_Mo_putRead_197 rfl ?_
                    refine g_iinc (q := 228) (lc' := [(5, _), (3, _), (9, _), (8, _), (4, _), (7, _), (6, _), (0, _), (1, _), (2, _)]) hx d_Mo_putRead_225 rfl rfl (z_inc _) (by decide) rfl ?_
                    refine g_goto (q := 29) hx d_Mo_putRead_228 rfl ?_
                    have e9 : at_ + mAdv (1, v) = at_ + 1 := rfl
                    rw [e9] at hI hF hfi2
                    refine z_perm (lc' := [(5, .int (nI (12 * r + i + 1))), (4, .int (nI 1)), (3, .int (nI (at_ + 1))), (0, .ref m), (1, .int (nI r)), (2, .int (nI b))]) (fun q hq => by simp only [List.mem_cons, List.not_mem_nil, or_false] at hq ⊢; rcases hq with h | h | h | h | h | h <;> simp [h]) ?_
                    exact ih (i + 1) M191 (by show rd.2.length - (i + 1) < rd.2.length - i; omega) _ _ 1 (by omega) hI hF hfi2 (by omega)
              · rw [if_pos (by omega)] at hI hF
                simp only [List.cons_append, List.nil_append] at hI
                simp only [mPuts_cons, mPuts_nil] at hF
                refine g_iconst (q := 158) (v := nI 0) hx d_Mo_putRead_157 rfl (by decide) ?_
                refine g_goto (q := 162) hx d_Mo_putRead_158 rfl ?_
                refine g_cv (q := 165) (zrunV hx d_Mo_putRead_162 lk_Mo_108 rfl rfl hq.g0 rfl rfl (Nat.le_of_ble_eq_true rfl) (by decide) (by omega) (by omega) (c_Mo_putN _ E Γ n M0 _ m _ _ _ _ hq hI)) rfl (fun M162 p162 => ?_)
                replace hI := p162
                refine g_iload (q := 167) hx d_Mo_putRead_165 rfl rfl ?_
                refine g_if_le (q := 170) (t := 194) hx d_Mo_putRead_167 rfl rfl (zb_le0 (by omega)) (fun h167 => ?_) (fun h167 => ?_)
                · refine g_iinc (q := 197) (lc' := [(3, _), (9, _), (8, _), (4, _), (7, _), (6, _), (5, _), (0, _), (1, _), (2, _)]) hx d_Mo_putRead_194 rfl rfl (z_inc _) (by decide) rfl ?_
                  refine g_goto (q := 225) hx d_Mo_putRead_197 rfl ?_
                  refine g_iinc (q := 228) (lc' := [(5, _), (3, _), (9, _), (8, _), (4, _), (7, _), (6, _), (0, _), (1, _), (2, _)]) hx d_Mo_putRead_225 rfl rfl (z_inc _) (by decide) rfl ?_
                  refine g_goto (q := 29) hx d_Mo_putRead_228 rfl ?_
                  have e9 : at_ + mAdv (1, v) = at_ + 1 := rfl
                  rw [e9] at hI hF hfi2
                  refine z_perm (lc' := [(5, .int (nI (12 * r + i + 1))), (4, .int (nI 1)), (3, .int (nI (at_ + 1))), (0, .ref m), (1, .int (nI r)), (2, .int (nI b))]) (fun q hq => by simp only [List.mem_cons, List.not_mem_nil, or_false] at hq ⊢; rcases hq with h | h | h | h | h | h <;> simp [h]) ?_
                  exact ih (i + 1) M162 (by show rd.2.length - (i + 1) < rd.2.length - i; omega) _ _ 1 (by omega) hI hF hfi2 (by omega)
                · exact absurd (by omega) h167
            · refine g_iload (q := 135) hx d_Mo_putRead_133 rfl rfl ?_
              refine g_goto (q := 142) hx d_Mo_putRead_135 rfl ?_
              rw [show mChg (ref at_) v = v from if_pos (by omega)] at hI hF
              refine g_istore (q := 144) (lc' := [(9, _), (8, _), (4, _), (7, _), (6, _), (5, _), (3, _), (0, _), (1, _), (2, _)]) hx d_Mo_putRead_142 rfl (by decide) rfl ?_
              refine g_aload_n (q := 145) hx d_Mo_putRead_144 rfl rfl ?_
              refine g_bipush (q := 147) (v := nI 47) hx d_Mo_putRead_145 rfl (by decide) ?_
              refine g_iconst (q := 148) (v := nI 2) hx d_Mo_putRead_147 rfl (by decide) ?_
              refine g_iload (q := 150) hx d_Mo_putRead_148 rfl rfl ?_
              refine g_imul (q := 151) hx d_Mo_putRead_150 rfl (pk_mul _ _) ?_
              refine g_iadd (q := 152) hx d_Mo_putRead_151 rfl (nI_add _ _) ?_
              refine g_iload (q := 154) hx d_Mo_putRead_152 rfl rfl ?_
              refine g_if_ne (q := 157) (t := 161) hx d_Mo_putRead_154 rfl rfl (zb_ne0 (by omega)) (fun h154 => ?_) (fun h154 => ?_)
              · rw [if_neg (by omega)] at hI hF
                simp only [List.cons_append, List.nil_append] at hI
                simp only [mPuts_cons, mPuts_nil] at hF
                refine g_iconst (q := 162) (v := nI 1) hx d_Mo_putRead_161 rfl (by decide) ?_
                refine g_cv (q := 165) (zrunV hx d_Mo_putRead_162 lk_Mo_108 rfl rfl hq.g0 rfl rfl (Nat.le_of_ble_eq_true rfl) (by decide) (by omega) (by omega) (c_Mo_putN _ E Γ n M0 _ m _ _ _ _ hq hI)) rfl (fun M162 p162 => ?_)
                replace hI := p162
                refine g_iload (q := 167) hx d_Mo_putRead_165 rfl rfl ?_
                refine g_if_le (q := 170) (t := 194) hx d_Mo_putRead_167 rfl rfl (zb_le0 (by omega)) (fun h167 => ?_) (fun h167 => ?_)
                · exact absurd (by omega) h154
                · refine g_aload_n (q := 171) hx d_Mo_putRead_170 rfl rfl ?_
                  refine g_bipush (q := 173) (v := nI 47) hx d_Mo_putRead_171 rfl (by decide) ?_
                  refine g_iconst (q := 174) (v := nI 2) hx d_Mo_putRead_173 rfl (by decide) ?_
                  refine g_iload (q := 176) hx d_Mo_putRead_174 rfl rfl ?_
                  refine g_imul (q := 177) hx d_Mo_putRead_176 rfl (pk_mul _ _) ?_
                  refine g_iadd (q := 178) hx d_Mo_putRead_177 rfl (nI_add _ _) ?_
                  refine g_iconst (q := 179) (v := nI 1) hx d_Mo_putRead_178 rfl (by decide) ?_
                  refine g_iadd (q := 180) hx d_Mo_putRead_179 rfl (nI_add _ _) ?_
                  refine g_iload (q := 182) hx d_Mo_putRead_180 rfl rfl ?_
                  refine g_iconst (q := 183) (v := nI 1) hx d_Mo_putRead_182 rfl (by decide) ?_
                  refine g_icmp_ne (q := 186) (t := 190) hx d_Mo_putRead_183 rfl rfl (not_congr (nI_eq (by omega) (by omega))) (fun h183 => ?_) (fun h183 => ?_)
                  · rw [if_neg (by omega)] at hI hF
                    refine g_iconst (q := 191) (v := nI 1) hx d_Mo_putRead_190 rfl (by decide) ?_
                    refine g_cv (q := 194) (zrunV hx d_Mo_putRead_191 lk_Mo_108 rfl rfl hq.g0 rfl rfl (Nat.le_of_ble_eq_true rfl) (by decide) (by omega) (by omega) (c_Mo_putN _ E Γ n M0 _ m _ _ _ _ hq hI)) rfl (fun M191 p191 => ?_)
                    replace hI := p191
                    refine g_iinc (q := 197) (lc' := [(3, _), (9, _), (8, _), (4, _), (7, _), (6, _), (5, _), (0, _), (1, _), (2, _)]) hx d_Mo_putRead_194 rfl rfl (z_inc _) (by decide) rfl ?_
                    refine g_goto (q := 225) hx d_Mo_putRead_197 rfl ?_
                    refine g_iinc (q := 228) (lc' := [(5, _), (3, _), (9, _), (8, _), (4, _), (7, _), (6, _), (0, _), (1, _), (2, _)]) hx d_Mo_putRead_225 rfl rfl (z_inc _) (by decide) rfl ?_
                    refine g_goto (q := 29) hx d_Mo_putRead_228 rfl ?_
                    have e9 : at_ + mAdv (1, v) = at_ + 1 := rfl
                    rw [e9] at hI hF hfi2
                    refine z_perm (lc' := [(5, .int (nI (12 * r + i + 1))), (4, .int (nI 1)), (3, .int (nI (at_ + 1))), (0, .ref m), (1, .int (nI r)), (2, .int (nI b))]) (fun q hq => by simp only [List.mem_cons, List.not_mem_nil, or_false] at hq ⊢; rcases hq with h | h | h | h | h | h <;> simp [h]) ?_
                    exact ih (i + 1) M191 (by show rd.2.length - (i + 1) < rd.2.length - i; omega) _ _ 1 (by omega) hI hF hfi2 (by omega)
                  · rw [if_pos (by omega)] at hI hF
                    refine g_iconst (q := 187) (v := nI 0) hx d_Mo_putRead_186 rfl (by decide) ?_
                    refine g_goto (q := 191) hx d_Mo_putRead_187 rfl ?_
                    refine g_cv (q := 194) (zrunV hx d_Mo_putRead_191 lk_Mo_108 rfl rfl hq.g0 rfl rfl (Nat.le_of_ble_eq_true rfl) (by decide) (by omega) (by omega) (c_Mo_putN _ E Γ n M0 _ m _ _ _ _ hq hI)) rfl (fun M191 p191 => ?_)
                    replace hI := p191
                    refine g_iinc (q := 197) (lc' := [(3, _), (9, _), (8, _), (4, _), (7, _), (6, _), (5, _), (0, _), (1, _), (2, _)]) hx d_Mo_putRead_194 rfl rfl (z_inc _) (by decide) rfl ?_
                    refine g_goto (q := 225) hx d_Mo_putRead_197 rfl ?_
                    refine g_iinc (q := 228) (lc' := [(5, _), (3, _), (9, _), (8, _), (4, _), (7, _), (6, _), (0, _), (1, _), (2, _)]) hx d_Mo_putRead_225 rfl rfl (z_inc _) (by decide) rfl ?_
                    refine g_goto (q := 29) hx d_Mo_putRead_228 rfl ?_
                    have e9 : at_ + mAdv (1, v) = at_ + 1 := rfl
                    rw [e9] at hI hF hfi2
                    refine z_perm (lc' := [(5, .int (nI (12 * r + i + 1))), (4, .int (nI 1)), (3, .int (nI (at_ + 1))), (0, .ref m), (1, .int (nI r)), (2, .int (nI b))]) (fun q hq => by simp only [List.mem_cons, List.not_mem_nil, or_false] at hq ⊢; rcases hq with h | h | h | h | h | h <;> simp [h]) ?_
                    exact ih (i + 1) M191 (by show rd.2.length - (i + 1) < rd.2.length - i; omega) _ _ 1 (by omega) hI hF hfi2 (by omega)
              · rw [if_pos (by omega)] at hI hF
                simp only [List.cons_append, List.nil_append] at hI
                simp only [mPuts_cons, mPuts_nil] at hF
                refine g_iconst (q := 158) (v := nI 0) hx d_Mo_putRead_157 rfl (by decide) ?_
                refine g_goto (q := 162) hx d_Mo_putRead_158 rfl ?_
                refine g_cv (q := 165) (zrunV hx d_Mo_putRead_162 lk_Mo_108 rfl rfl hq.g0 rfl rfl (Nat.le_of_ble_eq_true rfl) (by decide) (by omega) (by omega) (c_Mo_putN _ E Γ n M0 _ m _ _ _ _ hq hI)) rfl (fun M162 p162 => ?_)
                replace hI := p162
                refine g_iload (q := 167) hx d_Mo_putRead_165 rfl rfl ?_
                refine g_if_le (q := 170) (t := 194) hx d_Mo_putRead_167 rfl rfl (zb_le0 (by omega)) (fun h167 => ?_) (fun h167 => ?_)
                · refine g_iinc (q := 197) (lc' := [(3, _), (9, _), (8, _), (4, _), (7, _), (6, _), (5, _), (0, _), (1, _), (2, _)]) hx d_Mo_putRead_194 rfl rfl (z_inc _) (by decide) rfl ?_
                  refine g_goto (q := 225) hx d_Mo_putRead_197 rfl ?_
                  refine g_iinc (q := 228) (lc' := [(5, _), (3, _), (9, _), (8, _), (4, _), (7, _), (6, _), (0, _), (1, _), (2, _)]) hx d_Mo_putRead_225 rfl rfl (z_inc _) (by decide) rfl ?_
                  refine g_goto (q := 29) hx d_Mo_putRead_228 rfl ?_
                  have e9 : at_ + mAdv (1, v) = at_ + 1 := rfl
                  rw [e9] at hI hF hfi2
                  refine z_perm (lc' := [(5, .int (nI (12 * r + i + 1))), (4, .int (nI 1)), (3, .int (nI (at_ + 1))), (0, .ref m), (1, .int (nI r)), (2, .int (nI b))]) (fun q hq => by simp only [List.mem_cons, List.not_mem_nil, or_false] at hq ⊢; rcases hq with h | h | h | h | h | h <;> simp [h]) ?_
                  exact ih (i + 1) M162 (by show rd.2.length - (i + 1) < rd.2.length - i; omega) _ _ 1 (by omega) hI hF hfi2 (by omega)
                · exact absurd (by omega) h167
        · obtain rfl : k = 3 := (by omega)
          have hv1 := hf03 (by omega)
          rw [show mEdN ref at_ (3, v) = mNum 2 (v - 1) from rfl] at hI hF
          refine g_aload_n (q := 87) hx d_Mo_putRead_86 rfl rfl ?_
          refine g_iload (q := 89) hx d_Mo_putRead_87 rfl rfl ?_
          refine g_if_ne (q := 92) (t := 96) hx d_Mo_putRead_89 rfl rfl (zb_ne0 (by omega)) (fun h89 => ?_) (fun h89 => ?_)
          · refine g_iconst (q := 97) (v := nI 2) hx d_Mo_putRead_96 rfl (by decide) ?_
            refine g_iload (q := 99) hx d_Mo_putRead_97 rfl rfl ?_
            refine g_iconst (q := 100) (v := nI 1) hx d_Mo_putRead_99 rfl (by decide) ?_
            refine g_isub (q := 101) hx d_Mo_putRead_100 rfl (pk_sub (by omega)) ?_
            refine g_cv (q := 104) (zrunV hx d_Mo_putRead_101 lk_Mo_111 rfl rfl hq.g0 rfl rfl (Nat.le_of_ble_eq_true rfl) (by decide) (by omega) (by omega) (c_Mo_putNumber _ E Γ n M0 _ m 2 (v - 1) _ _ hq (by omega) (by omega) hI)) rfl (fun M101 p101 => ?_)
            replace hI := p101
            refine g_iload_n (q := 105) hx d_Mo_putRead_104 rfl rfl ?_
            refine g_iload (q := 107) hx d_Mo_putRead_105 rfl rfl ?_
            refine g_iadd (q := 108) hx d_Mo_putRead_107 rfl (nI_add _ _) ?_
            refine g_istore_n (q := 109) (lc' := [(3, _), (4, _), (7, _), (6, _), (5, _), (0, _), (1, _), (2, _)]) hx d_Mo_putRead_108 rfl (by decide) rfl ?_
            refine g_goto (q := 225) hx d_Mo_putRead_109 rfl ?_
            refine g_iinc (q := 228) (lc' := [(5, _), (3, _), (4, _), (7, _), (6, _), (0, _), (1, _), (2, _)]) hx d_Mo_putRead_225 rfl rfl (z_inc _) (by decide) rfl ?_
            refine g_goto (q := 29) hx d_Mo_putRead_228 rfl ?_
            have e9 : at_ + mAdv (3, v) = at_ + v := rfl
            rw [e9] at hI hF hfi2
            refine z_perm (lc' := [(5, .int (nI (12 * r + i + 1))), (4, .int (nI 3)), (3, .int (nI (at_ + v))), (0, .ref m), (1, .int (nI r)), (2, .int (nI b))]) (fun q hq => by simp only [List.mem_cons, List.not_mem_nil, or_false] at hq ⊢; rcases hq with h | h | h | h | h | h <;> simp [h]) ?_
            exact ih (i + 1) M101 (by show rd.2.length - (i + 1) < rd.2.length - i; omega) _ _ 3 (by omega) hI hF hfi2 (by omega)
          · exact absurd h77 h89
  refine g_aload_n (q := 1) hx d_Mo_putRead_0 rfl rfl ?_
  refine g_iconst (q := 2) (v := nI 0) hx d_Mo_putRead_1 rfl (by decide) ?_
  refine g_aload_n (q := 3) hx d_Mo_putRead_2 rfl rfl ?_
  refine g_geta (q := 6) hx d_Mo_putRead_3 rfl fl_Mo_13 hq.g0 (hq.p2 hP) (by first | exact Nat.succ_ne_zero _ | omega) ?_
  refine g_iload_n (q := 7) hx d_Mo_putRead_6 rfl rfl ?_
  refine g_iald (q := 8) hx d_Mo_putRead_7 rfl hq.g2 rfl (by omega) (by decide) (hS.kp hI.1 rfl rfl rfl rfl rfl rfl).1 ?_
  refine g_iload_n (q := 9) hx d_Mo_putRead_8 rfl rfl ?_
  refine g_isub (q := 10) hx d_Mo_putRead_9 rfl (pk_sub hb) ?_
  refine g_cv (q := 13) (zrunV hx d_Mo_putRead_10 lk_Mo_111 rfl rfl hq.g0 rfl rfl (Nat.le_of_ble_eq_true rfl) (by decide) (by omega) (by omega) (c_Mo_putNumber _ E Γ n M0 _ m 0 (rd.1 - b) _ _ hq (by omega) (by omega) hI)) rfl (fun M10 p10 => ?_)
  replace hI := p10
  replace hP := hI.1.r
  have q1 := (hS.kp hI.1 rfl rfl rfl rfl rfl rfl).1
  refine g_aload_n (q := 14) hx d_Mo_putRead_13 rfl rfl ?_
  refine g_geta (q := 17) hx d_Mo_putRead_14 rfl fl_Mo_13 hq.g0 (hq.p2 hP) (by first | exact Nat.succ_ne_zero _ | omega) ?_
  refine g_iload_n (q := 18) hx d_Mo_putRead_17 rfl rfl ?_
  refine g_iald (q := 19) hx d_Mo_putRead_18 rfl hq.g2 rfl (by omega) (by decide) q1 ?_
  refine g_istore_n (q := 20) (lc' := [(3, _), (0, _), (1, _), (2, _)]) hx d_Mo_putRead_19 rfl (by decide) rfl ?_
  refine g_iconst (q := 21) (v := nI 4) hx d_Mo_putRead_20 rfl (by decide) ?_
  refine g_istore (q := 23) (lc' := [(4, _), (3, _), (0, _), (1, _), (2, _)]) hx d_Mo_putRead_21 rfl (by decide) rfl ?_
  refine g_bipush (q := 25) (v := nI 12) hx d_Mo_putRead_23 rfl (by decide) ?_
  refine g_iload_n (q := 26) hx d_Mo_putRead_25 rfl rfl ?_
  refine g_imul (q := 27) hx d_Mo_putRead_26 rfl (pk_mul _ _) ?_
  refine g_istore (q := 29) (lc' := [(5, _), (4, _), (3, _), (0, _), (1, _), (2, _)]) hx d_Mo_putRead_27 rfl (by decide) rfl ?_
  exact loop 0 M10 _ rd.1 4 (Nat.zero_le _) hI (by unfold mRead; rw [mPuts_app]; rfl) hfit (by omega)
