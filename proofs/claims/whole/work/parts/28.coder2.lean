set_option maxHeartbeats 4000000 in
set_option maxRecDepth 100000 in
/-- kind(b, k) -/
theorem c_Co_kind (l : Launch) (E : zE) (Γ : zG) (n : Nat) (M : zM) (X c : Nat) (r : vw_C) {σ : Type} (R : σ → Nat → Nat → Option (Nat × σ)) (I : zM → σ → Prop) (hbit : zBit E Γ n X R I) (hc : zCl[c]? = some r) (hl : zLb r) (hX : Γ X = some (0, c)) (s : σ) (hI : I M s) (b k w : Nat) (t : σ) (hb : b < 5) (hk : k < 5) (h : xKd R b k s = some (w, t)) :
    zCt l E Y_Co_kind 2 (0, 0) [.ref X, .int (nI b), .int (nI k)] Γ n M (zPi Γ n (fun v M' => v = nI w ∧ I M' t)) := by
  refine zCt.of [(0, .ref X), (1, .int (nI b)), (2, .int (nI k))] (by decide) (Nat.le_of_ble_eq_true rfl) rfl (fun f hfl hx hQ => ?_)
  unfold xKd at h
  obtain ⟨b1, s1, e1, h⟩ := xB_some.mp h
  refine g_bipush (q := 2) (v := nI 27) hx d_Co_kind_0 rfl (by decide) ?_
  refine g_iconst (q := 3) (v := nI 4) hx d_Co_kind_2 rfl (by decide) ?_
  refine g_iload_n (q := 4) hx d_Co_kind_3 rfl rfl ?_
  refine g_imul (q := 5) hx d_Co_kind_4 rfl (pk_mul _ _) ?_
  refine g_iadd (q := 6) hx d_Co_kind_5 rfl (nI_add _ _) ?_
  refine g_istore_n (q := 7) (lc' := [(3, _), (0, _), (1, _), (2, _)]) hx d_Co_kind_6 rfl (by decide) rfl ?_
  refine g_aload_n (q := 8) hx d_Co_kind_7 rfl rfl ?_
  refine g_iload_n (q := 9) hx d_Co_kind_8 rfl rfl ?_
  refine g_iload_n (q := 10) hx d_Co_kind_9 rfl rfl ?_
  refine g_if_ne (q := 13) (t := 17) hx d_Co_kind_10 rfl rfl (zb_ne0 (by omega)) (fun h10 => ?_) (fun h10 => ?_)
  · rw [if_neg (by omega)] at e1
    refine g_iconst (q := 18) (v := nI 1) hx d_Co_kind_17 rfl (by decide) ?_
    refine g_ci (q := 21) (zrunU hx d_Co_kind_18 hc hl hX rfl rfl (Nat.le_of_ble_eq_true rfl) (by decide) (by omega) (by omega) ((hbit M s (27 + 4 * b) _ b1 s1 _ hI (Or.inl ⟨by omega, rfl⟩) (by omega) e1).2 _)) rfl (fun r18 M1 p18 => ?_)
    obtain ⟨rfl, hI1⟩ := p18
    have gb1 := (hbit M s (27 + 4 * b) _ b1 s1 _ hI (Or.inl ⟨by omega, rfl⟩) (by omega) e1).1
    refine g_if_ne (q := 24) (t := 26) hx d_Co_kind_21 rfl rfl (zb_ne0 (by omega)) (fun h21 => ?_) (fun h21 => ?_)
    · rw [if_neg (by omega)] at h
      obtain ⟨b2, s2, e2, h⟩ := xB_some.mp h
      refine g_aload_n (q := 27) hx d_Co_kind_26 rfl rfl ?_
      refine g_iload_n (q := 28) hx d_Co_kind_27 rfl rfl ?_
      refine g_iconst (q := 29) (v := nI 1) hx d_Co_kind_28 rfl (by decide) ?_
      refine g_iadd (q := 30) hx d_Co_kind_29 rfl (nI_add _ _) ?_
      refine g_iload_n (q := 31) hx d_Co_kind_30 rfl rfl ?_
      refine g_iconst (q := 32) (v := nI 4) hx d_Co_kind_31 rfl (by decide) ?_
      refine g_icmp_ne (q := 35) (t := 39) hx d_Co_kind_32 rfl rfl (not_congr (nI_eq (by omega) (by omega))) (fun h32 => ?_) (fun h32 => ?_)
      · rw [if_neg (by omega)] at e2
        refine g_iconst (q := 40) (v := nI 1) hx d_Co_kind_39 rfl (by decide) ?_
        refine g_ci (q := 43) (zrunU hx d_Co_kind_40 hc hl hX rfl rfl (Nat.le_of_ble_eq_true rfl) (by decide) (by omega) (by omega) ((hbit M1 s1 (27 + 4 * b + 1) _ b2 s2 _ hI1 (Or.inl ⟨by omega, rfl⟩) (by omega) e2).2 _)) rfl (fun r40 M2 p40 => ?_)
        obtain ⟨rfl, hI2⟩ := p40
        have gb2 := (hbit M1 s1 (27 + 4 * b + 1) _ b2 s2 _ hI1 (Or.inl ⟨by omega, rfl⟩) (by omega) e2).1
        refine g_if_ne (q := 46) (t := 48) hx d_Co_kind_43 rfl rfl (zb_ne0 (by omega)) (fun h43 => ?_) (fun h43 => ?_)
        · rw [if_neg (by omega)] at h
          obtain ⟨b3, s3, e3, h⟩ := xB_some.mp h
          refine g_aload_n (q := 49) hx d_Co_kind_48 rfl rfl ?_
          refine g_iload_n (q := 50) hx d_Co_kind_49 rfl rfl ?_
          refine g_iconst (q := 51) (v := nI 2) hx d_Co_kind_50 rfl (by decide) ?_
          refine g_iadd (q := 52) hx d_Co_kind_51 rfl (nI_add _ _) ?_
          refine g_iload_n (q := 53) hx d_Co_kind_52 rfl rfl ?_
          refine g_iconst (q := 54) (v := nI 1) hx d_Co_kind_53 rfl (by decide) ?_
          refine g_icmp_ne (q := 57) (t := 61) hx d_Co_kind_54 rfl rfl (not_congr (nI_eq (by omega) (by omega))) (fun h54 => ?_) (fun h54 => ?_)
          · rw [if_neg (by omega)] at e3
            refine g_iconst (q := 62) (v := nI 1) hx d_Co_kind_61 rfl (by decide) ?_
            refine g_ci (q := 65) (zrunU hx d_Co_kind_62 hc hl hX rfl rfl (Nat.le_of_ble_eq_true rfl) (by decide) (by omega) (by omega) ((hbit M2 s2 (27 + 4 * b + 2) _ b3 s3 _ hI2 (Or.inl ⟨by omega, rfl⟩) (by omega) e3).2 _)) rfl (fun r62 M3 p62 => ?_)
            obtain ⟨rfl, hI3⟩ := p62
            have gb3 := (hbit M2 s2 (27 + 4 * b + 2) _ b3 s3 _ hI2 (Or.inl ⟨by omega, rfl⟩) (by omega) e3).1
            refine g_if_ne (q := 68) (t := 70) hx d_Co_kind_65 rfl rfl (zb_ne0 (by omega)) (fun h65 => ?_) (fun h65 => ?_)
            · rw [if_neg (by omega)] at h
              obtain ⟨b4, s4, e4, h⟩ := xB_some.mp h
              refine g_aload_n (q := 71) hx d_Co_kind_70 rfl rfl ?_
              refine g_iload_n (q := 72) hx d_Co_kind_71 rfl rfl ?_
              refine g_iconst (q := 73) (v := nI 3) hx d_Co_kind_72 rfl (by decide) ?_
              refine g_iadd (q := 74) hx d_Co_kind_73 rfl (nI_add _ _) ?_
              refine g_iload_n (q := 75) hx d_Co_kind_74 rfl rfl ?_
              refine g_iconst (q := 76) (v := nI 2) hx d_Co_kind_75 rfl (by decide) ?_
              refine g_icmp_ne (q := 79) (t := 83) hx d_Co_kind_76 rfl rfl (not_congr (nI_eq (by omega) (by omega))) (fun h76 => ?_) (fun h76 => ?_)
              · rw [if_neg (by omega)] at e4
                refine g_iconst (q := 84) (v := nI 1) hx d_Co_kind_83 rfl (by decide) ?_
                refine g_ci (q := 87) (zrunU hx d_Co_kind_84 hc hl hX rfl rfl (Nat.le_of_ble_eq_true rfl) (by decide) (by omega) (by omega) ((hbit M3 s3 (27 + 4 * b + 3) _ b4 s4 _ hI3 (Or.inl ⟨by omega, rfl⟩) (by omega) e4).2 _)) rfl (fun r84 M4 p84 => ?_)
                obtain ⟨rfl, hI4⟩ := p84
                have gb4 := (hbit M3 s3 (27 + 4 * b + 3) _ b4 s4 _ hI3 (Or.inl ⟨by omega, rfl⟩) (by omega) e4).1
                refine g_if_ne (q := 90) (t := 94) hx d_Co_kind_87 rfl rfl (zb_ne0 (by omega)) (fun h87 => ?_) (fun h87 => ?_)
                · obtain ⟨e5, rfl⟩ := Prod.mk.inj (Option.some.inj h)
                  rw [if_neg (by omega)] at e5
                  subst e5
                  refine g_iconst (q := 95) (v := nI 3) hx d_Co_kind_94 rfl (by decide) ?_
                  exact g_iret hx d_Co_kind_95 rfl hQ ⟨Nat.le_refl _, Nat.le_refl _⟩ ⟨_, rfl, rfl, rfl, rfl, hI4⟩
                · obtain ⟨e5, rfl⟩ := Prod.mk.inj (Option.some.inj h)
                  rw [if_pos (by omega)] at e5
                  subst e5
                  refine g_iconst (q := 91) (v := nI 2) hx d_Co_kind_90 rfl (by decide) ?_
                  refine g_goto (q := 95) hx d_Co_kind_91 rfl ?_
                  exact g_iret hx d_Co_kind_95 rfl hQ ⟨Nat.le_refl _, Nat.le_refl _⟩ ⟨_, rfl, rfl, rfl, rfl, hI4⟩
              · rw [if_pos (by omega)] at e4
                refine g_iconst (q := 80) (v := nI 0) hx d_Co_kind_79 rfl (by decide) ?_
                refine g_goto (q := 84) hx d_Co_kind_80 rfl ?_
                refine g_ci (q := 87) (zrunU hx d_Co_kind_84 hc hl hX rfl rfl (Nat.le_of_ble_eq_true rfl) (by decide) (by omega) (by omega) ((hbit M3 s3 (27 + 4 * b + 3) _ b4 s4 _ hI3 (Or.inl ⟨by omega, rfl⟩) (by omega) e4).2 _)) rfl (fun r84 M4 p84 => ?_)
                obtain ⟨rfl, hI4⟩ := p84
                have gb4 := (hbit M3 s3 (27 + 4 * b + 3) _ b4 s4 _ hI3 (Or.inl ⟨by omega, rfl⟩) (by omega) e4).1
                refine g_if_ne (q := 90) (t := 94) hx d_Co_kind_87 rfl rfl (zb_ne0 (by omega)) (fun h87 => ?_) (fun h87 => ?_)
                · obtain ⟨e5, rfl⟩ := Prod.mk.inj (Option.some.inj h)
                  rw [if_neg (by omega)] at e5
                  subst e5
                  refine g_iconst (q := 95) (v := nI 3) hx d_Co_kind_94 rfl (by decide) ?_
                  exact g_iret hx d_Co_kind_95 rfl hQ ⟨Nat.le_refl _, Nat.le_refl _⟩ ⟨_, rfl, rfl, rfl, rfl, hI4⟩
                · obtain ⟨e5, rfl⟩ := Prod.mk.inj (Option.some.inj h)
                  rw [if_pos (by omega)] at e5
                  subst e5
                  refine g_iconst (q := 91) (v := nI 2) hx d_Co_kind_90 rfl (by decide) ?_
                  refine g_goto (q := 95) hx d_Co_kind_91 rfl ?_
                  exact g_iret hx d_Co_kind_95 rfl hQ ⟨Nat.le_refl _, Nat.le_refl _⟩ ⟨_, rfl, rfl, rfl, rfl, hI4⟩
            · rw [if_pos (by omega)] at h
              obtain ⟨rfl, rfl⟩ := Prod.mk.inj (Option.some.inj h)
              refine g_iconst (q := 69) (v := nI 1) hx d_Co_kind_68 rfl (by decide) ?_
              exact g_iret hx d_Co_kind_69 rfl hQ ⟨Nat.le_refl _, Nat.le_refl _⟩ ⟨_, rfl, rfl, rfl, rfl, hI3⟩
          · rw [if_pos (by omega)] at e3
            refine g_iconst (q := 58) (v := nI 0) hx d_Co_kind_57 rfl (by decide) ?_
            refine g_goto (q := 62) hx d_Co_kind_58 rfl ?_
            refine g_ci (q := 65) (zrunU hx d_Co_kind_62 hc hl hX rfl rfl (Nat.le_of_ble_eq_true rfl) (by decide) (by omega) (by omega) ((hbit M2 s2 (27 + 4 * b + 2) _ b3 s3 _ hI2 (Or.inl ⟨by omega, rfl⟩) (by omega) e3).2 _)) rfl (fun r62 M3 p62 => ?_)
            obtain ⟨rfl, hI3⟩ := p62
            have gb3 := (hbit M2 s2 (27 + 4 * b + 2) _ b3 s3 _ hI2 (Or.inl ⟨by omega, rfl⟩) (by omega) e3).1
            refine g_if_ne (q := 68) (t := 70) hx d_Co_kind_65 rfl rfl (zb_ne0 (by omega)) (fun h65 => ?_) (fun h65 => ?_)
            · rw [if_neg (by omega)] at h
              obtain ⟨b4, s4, e4, h⟩ := xB_some.mp h
              refine g_aload_n (q := 71) hx d_Co_kind_70 rfl rfl ?_
              refine g_iload_n (q := 72) hx d_Co_kind_71 rfl rfl ?_
              refine g_iconst (q := 73) (v := nI 3) hx d_Co_kind_72 rfl (by decide) ?_
              refine g_iadd (q := 74) hx d_Co_kind_73 rfl (nI_add _ _) ?_
              refine g_iload_n (q := 75) hx d_Co_kind_74 rfl rfl ?_
              refine g_iconst (q := 76) (v := nI 2) hx d_Co_kind_75 rfl (by decide) ?_
              refine g_icmp_ne (q := 79) (t := 83) hx d_Co_kind_76 rfl rfl (not_congr (nI_eq (by omega) (by omega))) (fun h76 => ?_) (fun h76 => ?_)
              · rw [if_neg (by omega)] at e4
                refine g_iconst (q := 84) (v := nI 1) hx d_Co_kind_83 rfl (by decide) ?_
                refine g_ci (q := 87) (zrunU hx d_Co_kind_84 hc hl hX rfl rfl (Nat.le_of_ble_eq_true rfl) (by decide) (by omega) (by omega) ((hbit M3 s3 (27 + 4 * b + 3) _ b4 s4 _ hI3 (Or.inl ⟨by omega, rfl⟩) (by omega) e4).2 _)) rfl (fun r84 M4 p84 => ?_)
                obtain ⟨rfl, hI4⟩ := p84
                have gb4 := (hbit M3 s3 (27 + 4 * b + 3) _ b4 s4 _ hI3 (Or.inl ⟨by omega, rfl⟩) (by omega) e4).1
                refine g_if_ne (q := 90) (t := 94) hx d_Co_kind_87 rfl rfl (zb_ne0 (by omega)) (fun h87 => ?_) (fun h87 => ?_)
                · obtain ⟨e5, rfl⟩ := Prod.mk.inj (Option.some.inj h)
                  rw [if_neg (by omega)] at e5
                  subst e5
                  refine g_iconst (q := 95) (v := nI 3) hx d_Co_kind_94 rfl (by decide) ?_
                  exact g_iret hx d_Co_kind_95 rfl hQ ⟨Nat.le_refl _, Nat.le_refl _⟩ ⟨_, rfl, rfl, rfl, rfl, hI4⟩
                · obtain ⟨e5, rfl⟩ := Prod.mk.inj (Option.some.inj h)
                  rw [if_pos (by omega)] at e5
                  subst e5
                  refine g_iconst (q := 91) (v := nI 2) hx d_Co_kind_90 rfl (by decide) ?_
                  refine g_goto (q := 95) hx d_Co_kind_91 rfl ?_
                  exact g_iret hx d_Co_kind_95 rfl hQ ⟨Nat.le_refl _, Nat.le_refl _⟩ ⟨_, rfl, rfl, rfl, rfl, hI4⟩
              · rw [if_pos (by omega)] at e4
                refine g_iconst (q := 80) (v := nI 0) hx d_Co_kind_79 rfl (by decide) ?_
                refine g_goto (q := 84) hx d_Co_kind_80 rfl ?_
                refine g_ci (q := 87) (zrunU hx d_Co_kind_84 hc hl hX rfl rfl (Nat.le_of_ble_eq_true rfl) (by decide) (by omega) (by omega) ((hbit M3 s3 (27 + 4 * b + 3) _ b4 s4 _ hI3 (Or.inl ⟨by omega, rfl⟩) (by omega) e4).2 _)) rfl (fun r84 M4 p84 => ?_)
                obtain ⟨rfl, hI4⟩ := p84
                have gb4 := (hbit M3 s3 (27 + 4 * b + 3) _ b4 s4 _ hI3 (Or.inl ⟨by omega, rfl⟩) (by omega) e4).1
                refine g_if_ne (q := 90) (t := 94) hx d_Co_kind_87 rfl rfl (zb_ne0 (by omega)) (fun h87 => ?_) (fun h87 => ?_)
                · obtain ⟨e5, rfl⟩ := Prod.mk.inj (Option.some.inj h)
                  rw [if_neg (by omega)] at e5
                  subst e5
                  refine g_iconst (q := 95) (v := nI 3) hx d_Co_kind_94 rfl (by decide) ?_
                  exact g_iret hx d_Co_kind_95 rfl hQ ⟨Nat.le_refl _, Nat.le_refl _⟩ ⟨_, rfl, rfl, rfl, rfl, hI4⟩
                · obtain ⟨e5, rfl⟩ := Prod.mk.inj (Option.some.inj h)
                  rw [if_pos (by omega)] at e5
                  subst e5
                  refine g_iconst (q := 91) (v := nI 2) hx d_Co_kind_90 rfl (by decide) ?_
                  refine g_goto (q := 95) hx d_Co_kind_91 rfl ?_
                  exact g_iret hx d_Co_kind_95 rfl hQ ⟨Nat.le_refl _, Nat.le_refl _⟩ ⟨_, rfl, rfl, rfl, rfl, hI4⟩
            · rw [if_pos (by omega)] at h
              obtain ⟨rfl, rfl⟩ := Prod.mk.inj (Option.some.inj h)
              refine g_iconst (q := 69) (v := nI 1) hx d_Co_kind_68 rfl (by decide) ?_
              exact g_iret hx d_Co_kind_69 rfl hQ ⟨Nat.le_refl _, Nat.le_refl _⟩ ⟨_, rfl, rfl, rfl, rfl, hI3⟩
        · rw [if_pos (by omega)] at h
          obtain ⟨rfl, rfl⟩ := Prod.mk.inj (Option.some.inj h)
          refine g_iconst (q := 47) (v := nI 4) hx d_Co_kind_46 rfl (by decide) ?_
          exact g_iret hx d_Co_kind_47 rfl hQ ⟨Nat.le_refl _, Nat.le_refl _⟩ ⟨_, rfl, rfl, rfl, rfl, hI2⟩
      · rw [if_pos (by omega)] at e2
        refine g_iconst (q := 36) (v := nI 0) hx d_Co_kind_35 rfl (by decide) ?_
        refine g_goto (q := 40) hx d_Co_kind_36 rfl ?_
        refine g_ci (q := 43) (zrunU hx d_Co_kind_40 hc hl hX rfl rfl (Nat.le_of_ble_eq_true rfl) (by decide) (by omega) (by omega) ((hbit M1 s1 (27 + 4 * b + 1) _ b2 s2 _ hI1 (Or.inl ⟨by omega, rfl⟩) (by omega) e2).2 _)) rfl (fun r40 M2 p40 => ?_)
        obtain ⟨rfl, hI2⟩ := p40
        have gb2 := (hbit M1 s1 (27 + 4 * b + 1) _ b2 s2 _ hI1 (Or.inl ⟨by omega, rfl⟩) (by omega) e2).1
        refine g_if_ne (q := 46) (t := 48) hx d_Co_kind_43 rfl rfl (zb_ne0 (by omega)) (fun h43 => ?_) (fun h43 => ?_)
        · rw [if_neg (by omega)] at h
          obtain ⟨b3, s3, e3, h⟩ := xB_some.mp h
          refine g_aload_n (q := 49) hx d_Co_kind_48 rfl rfl ?_
          refine g_iload_n (q := 50) hx d_Co_kind_49 rfl rfl ?_
          refine g_iconst (q := 51) (v := nI 2) hx d_Co_kind_50 rfl (by decide) ?_
          refine g_iadd (q := 52) hx d_Co_kind_51 rfl (nI_add _ _) ?_
          refine g_iload_n (q := 53) hx d_Co_kind_52 rfl rfl ?_
          refine g_iconst (q := 54) (v := nI 1) hx d_Co_kind_53 rfl (by decide) ?_
          refine g_icmp_ne (q := 57) (t := 61) hx d_Co_kind_54 rfl rfl (not_congr (nI_eq (by omega) (by omega))) (fun h54 => ?_) (fun h54 => ?_)
          · rw [if_neg (by omega)] at e3
            refine g_iconst (q := 62) (v := nI 1) hx d_Co_kind_61 rfl (by decide) ?_
            refine g_ci (q := 65) (zrunU hx d_Co_kind_62 hc hl hX rfl rfl (Nat.le_of_ble_eq_true rfl) (by decide) (by omega) (by omega) ((hbit M2 s2 (27 + 4 * b + 2) _ b3 s3 _ hI2 (Or.inl ⟨by omega, rfl⟩) (by omega) e3).2 _)) rfl (fun r62 M3 p62 => ?_)
            obtain ⟨rfl, hI3⟩ := p62
            have gb3 := (hbit M2 s2 (27 + 4 * b + 2) _ b3 s3 _ hI2 (Or.inl ⟨by omega, rfl⟩) (by omega) e3).1
            refine g_if_ne (q := 68) (t := 70) hx d_Co_kind_65 rfl rfl (zb_ne0 (by omega)) (fun h65 => ?_) (fun h65 => ?_)
            · rw [if_neg (by omega)] at h
              obtain ⟨b4, s4, e4, h⟩ := xB_some.mp h
              refine g_aload_n (q := 71) hx d_Co_kind_70 rfl rfl ?_
              refine g_iload_n (q := 72) hx d_Co_kind_71 rfl rfl ?_
              refine g_iconst (q := 73) (v := nI 3) hx d_Co_kind_72 rfl (by decide) ?_
              refine g_iadd (q := 74) hx d_Co_kind_73 rfl (nI_add _ _) ?_
              refine g_iload_n (q := 75) hx d_Co_kind_74 rfl rfl ?_
              refine g_iconst (q := 76) (v := nI 2) hx d_Co_kind_75 rfl (by decide) ?_
              refine g_icmp_ne (q := 79) (t := 83) hx d_Co_kind_76 rfl rfl (not_congr (nI_eq (by omega) (by omega))) (fun h76 => ?_) (fun h76 => ?_)
              · rw [if_neg (by omega)] at e4
                refine g_iconst (q := 84) (v := nI 1) hx d_Co_kind_83 rfl (by decide) ?_
                refine g_ci (q := 87) (zrunU hx d_Co_kind_84 hc hl hX rfl rfl (Nat.le_of_ble_eq_true rfl) (by decide) (by omega) (by omega) ((hbit M3 s3 (27 + 4 * b + 3) _ b4 s4 _ hI3 (Or.inl ⟨by omega, rfl⟩) (by omega) e4).2 _)) rfl (fun r84 M4 p84 => ?_)
                obtain ⟨rfl, hI4⟩ := p84
                have gb4 := (hbit M3 s3 (27 + 4 * b + 3) _ b4 s4 _ hI3 (Or.inl ⟨by omega, rfl⟩) (by omega) e4).1
                refine g_if_ne (q := 90) (t := 94) hx d_Co_kind_87 rfl rfl (zb_ne0 (by omega)) (fun h87 => ?_) (fun h87 => ?_)
                · obtain ⟨e5, rfl⟩ := Prod.mk.inj (Option.some.inj h)
                  rw [if_neg (by omega)] at e5
                  subst e5
                  refine g_iconst (q := 95) (v := nI 3) hx d_Co_kind_94 rfl (by decide) ?_
                  exact g_iret hx d_Co_kind_95 rfl hQ ⟨Nat.le_refl _, Nat.le_refl _⟩ ⟨_, rfl, rfl, rfl, rfl, hI4⟩
                · obtain ⟨e5, rfl⟩ := Prod.mk.inj (Option.some.inj h)
                  rw [if_pos (by omega)] at e5
                  subst e5
                  refine g_iconst (q := 91) (v := nI 2) hx d_Co_kind_90 rfl (by decide) ?_
                  refine g_goto (q := 95) hx d_Co_kind_91 rfl ?_
                  exact g_iret hx d_Co_kind_95 rfl hQ ⟨Nat.le_refl _, Nat.le_refl _⟩ ⟨_, rfl, rfl, rfl, rfl, hI4⟩
              · rw [if_pos (by omega)] at e4
                refine g_iconst (q := 80) (v := nI 0) hx d_Co_kind_79 rfl (by decide) ?_
                refine g_goto (q := 84) hx d_Co_kind_80 rfl ?_
                refine g_ci (q := 87) (zrunU hx d_Co_kind_84 hc hl hX rfl rfl (Nat.le_of_ble_eq_true rfl) (by decide) (by omega) (by omega) ((hbit M3 s3 (27 + 4 * b + 3) _ b4 s4 _ hI3 (Or.inl ⟨by omega, rfl⟩) (by omega) e4).2 _)) rfl (fun r84 M4 p84 => ?_)
                obtain ⟨rfl, hI4⟩ := p84
                have gb4 := (hbit M3 s3 (27 + 4 * b + 3) _ b4 s4 _ hI3 (Or.inl ⟨by omega, rfl⟩) (by omega) e4).1
                refine g_if_ne (q := 90) (t := 94) hx d_Co_kind_87 rfl rfl (zb_ne0 (by omega)) (fun h87 => ?_) (fun h87 => ?_)
                · obtain ⟨e5, rfl⟩ := Prod.mk.inj (Option.some.inj h)
                  rw [if_neg (by omega)] at e5
                  subst e5
                  refine g_iconst (q := 95) (v := nI 3) hx d_Co_kind_94 rfl (by decide) ?_
                  exact g_iret hx d_Co_kind_95 rfl hQ ⟨Nat.le_refl _, Nat.le_refl _⟩ ⟨_, rfl, rfl, rfl, rfl, hI4⟩
                · obtain ⟨e5, rfl⟩ := Prod.mk.inj (Option.some.inj h)
                  rw [if_pos (by omega)] at e5
                  subst e5
                  refine g_iconst (q := 91) (v := nI 2) hx d_Co_kind_90 rfl (by decide) ?_
                  refine g_goto (q := 95) hx d_Co_kind_91 rfl ?_
                  exact g_iret hx d_Co_kind_95 rfl hQ ⟨Nat.le_refl _, Nat.le_refl _⟩ ⟨_, rfl, rfl, rfl, rfl, hI4⟩
            · rw [if_pos (by omega)] at h
              obtain ⟨rfl, rfl⟩ := Prod.mk.inj (Option.some.inj h)
              refine g_iconst (q := 69) (v := nI 1) hx d_Co_kind_68 rfl (by decide) ?_
              exact g_iret hx d_Co_kind_69 rfl hQ ⟨Nat.le_refl _, Nat.le_refl _⟩ ⟨_, rfl, rfl, rfl, rfl, hI3⟩
          · rw [if_pos (by omega)] at e3
            refine g_iconst (q := 58) (v := nI 0) hx d_Co_kind_57 rfl (by decide) ?_
            refine g_goto (q := 62) hx d_Co_kind_58 rfl ?_
            refine g_ci (q := 65) (zrunU hx d_Co_kind_62 hc hl hX rfl rfl (Nat.le_of_ble_eq_true rfl) (by decide) (by omega) (by omega) ((hbit M2 s2 (27 + 4 * b + 2) _ b3 s3 _ hI2 (Or.inl ⟨by omega, rfl⟩) (by omega) e3).2 _)) rfl (fun r62 M3 p62 => ?_)
            obtain ⟨rfl, hI3⟩ := p62
            have gb3 := (hbit M2 s2 (27 + 4 * b + 2) _ b3 s3 _ hI2 (Or.inl ⟨by omega, rfl⟩) (by omega) e3).1
            refine g_if_ne (q := 68) (t := 70) hx d_Co_kind_65 rfl rfl (zb_ne0 (by omega)) (fun h65 => ?_) (fun h65 => ?_)
            · rw [if_neg (by omega)] at h
              obtain ⟨b4, s4, e4, h⟩ := xB_some.mp h
              refine g_aload_n (q := 71) hx d_Co_kind_70 rfl rfl ?_
              refine g_iload_n (q := 72) hx d_Co_kind_71 rfl rfl ?_
              refine g_iconst (q := 73) (v := nI 3) hx d_Co_kind_72 rfl (by decide) ?_
              refine g_iadd (q := 74) hx d_Co_kind_73 rfl (nI_add _ _) ?_
              refine g_iload_n (q := 75) hx d_Co_kind_74 rfl rfl ?_
              refine g_iconst (q := 76) (v := nI 2) hx d_Co_kind_75 rfl (by decide) ?_
              refine g_icmp_ne (q := 79) (t := 83) hx d_Co_kind_76 rfl rfl (not_congr (nI_eq (by omega) (by omega))) (fun h76 => ?_) (fun h76 => ?_)
              · rw [if_neg (by omega)] at e4
                refine g_iconst (q := 84) (v := nI 1) hx d_Co_kind_83 rfl (by decide) ?_
                refine g_ci (q := 87) (zrunU hx d_Co_kind_84 hc hl hX rfl rfl (Nat.le_of_ble_eq_true rfl) (by decide) (by omega) (by omega) ((hbit M3 s3 (27 + 4 * b + 3) _ b4 s4 _ hI3 (Or.inl ⟨by omega, rfl⟩) (by omega) e4).2 _)) rfl (fun r84 M4 p84 => ?_)
                obtain ⟨rfl, hI4⟩ := p84
                have gb4 := (hbit M3 s3 (27 + 4 * b + 3) _ b4 s4 _ hI3 (Or.inl ⟨by omega, rfl⟩) (by omega) e4).1
                refine g_if_ne (q := 90) (t := 94) hx d_Co_kind_87 rfl rfl (zb_ne0 (by omega)) (fun h87 => ?_) (fun h87 => ?_)
                · obtain ⟨e5, rfl⟩ := Prod.mk.inj (Option.some.inj h)
                  rw [if_neg (by omega)] at e5
                  subst e5
                  refine g_iconst (q := 95) (v := nI 3) hx d_Co_kind_94 rfl (by decide) ?_
                  exact g_iret hx d_Co_kind_95 rfl hQ ⟨Nat.le_refl _, Nat.le_refl _⟩ ⟨_, rfl, rfl, rfl, rfl, hI4⟩
                · obtain ⟨e5, rfl⟩ := Prod.mk.inj (Option.some.inj h)
                  rw [if_pos (by omega)] at e5
                  subst e5
                  refine g_iconst (q := 91) (v := nI 2) hx d_Co_kind_90 rfl (by decide) ?_
                  refine g_goto (q := 95) hx d_Co_kind_91 rfl ?_
                  exact g_iret hx d_Co_kind_95 rfl hQ ⟨Nat.le_refl _, Nat.le_refl _⟩ ⟨_, rfl, rfl, rfl, rfl, hI4⟩
              · rw [if_pos (by omega)] at e4
                refine g_iconst (q := 80) (v := nI 0) hx d_Co_kind_79 rfl (by decide) ?_
                refine g_goto (q := 84) hx d_Co_kind_80 rfl ?_
                refine g_ci (q := 87) (zrunU hx d_Co_kind_84 hc hl hX rfl rfl (Nat.le_of_ble_eq_true rfl) (by decide) (by omega) (by omega) ((hbit M3 s3 (27 + 4 * b + 3) _ b4 s4 _ hI3 (Or.inl ⟨by omega, rfl⟩) (by omega) e4).2 _)) rfl (fun r84 M4 p84 => ?_)
                obtain ⟨rfl, hI4⟩ := p84
                have gb4 := (hbit M3 s3 (27 + 4 * b + 3) _ b4 s4 _ hI3 (Or.inl ⟨by omega, rfl⟩) (by omega) e4).1
                refine g_if_ne (q := 90) (t := 94) hx d_Co_kind_87 rfl rfl (zb_ne0 (by omega)) (fun h87 => ?_) (fun h87 => ?_)
                · obtain ⟨e5, rfl⟩ := Prod.mk.inj (Option.some.inj h)
                  rw [if_neg (by omega)] at e5
                  subst e5
                  refine g_iconst (q := 95) (v := nI 3) hx d_Co_kind_94 rfl (by decide) ?_
                  exact g_iret hx d_Co_kind_95 rfl hQ ⟨Nat.le_refl _, Nat.le_refl _⟩ ⟨_, rfl, rfl, rfl, rfl, hI4⟩
                · obtain ⟨e5, rfl⟩ := Prod.mk.inj (Option.some.inj h)
                  rw [if_pos (by omega)] at e5
                  subst e5
                  refine g_iconst (q := 91) (v := nI 2) hx d_Co_kind_90 rfl (by decide) ?_
                  refine g_goto (q := 95) hx d_Co_kind_91 rfl ?_
                  exact g_iret hx d_Co_kind_95 rfl hQ ⟨Nat.le_refl _, Nat.le_refl _⟩ ⟨_, rfl, rfl, rfl, rfl, hI4⟩
            · rw [if_pos (by omega)] at h
              obtain ⟨rfl, rfl⟩ := Prod.mk.inj (Option.some.inj h)
              refine g_iconst (q := 69) (v := nI 1) hx d_Co_kind_68 rfl (by decide) ?_
              exact g_iret hx d_Co_kind_69 rfl hQ ⟨Nat.le_refl _, Nat.le_refl _⟩ ⟨_, rfl, rfl, rfl, rfl, hI3⟩
        · rw [if_pos (by omega)] at h
          obtain ⟨rfl, rfl⟩ := Prod.mk.inj (Option.some.inj h)
          refine g_iconst (q := 47) (v := nI 4) hx d_Co_kind_46 rfl (by decide) ?_
          exact g_iret hx d_Co_kind_47 rfl hQ ⟨Nat.le_refl _, Nat.le_refl _⟩ ⟨_, rfl, rfl, rfl, rfl, hI2⟩
    · rw [if_pos (by omega)] at h
      obtain ⟨rfl, rfl⟩ := Prod.mk.inj (Option.some.inj h)
      refine g_iconst (q := 25) (v := nI 0) hx d_Co_kind_24 rfl (by decide) ?_
      exact g_iret hx d_Co_kind_25 rfl hQ ⟨Nat.le_refl _, Nat.le_refl _⟩ ⟨_, rfl, rfl, rfl, rfl, hI1⟩
  · rw [if_pos (by omega)] at e1
    refine g_iconst (q := 14) (v := nI 0) hx d_Co_kind_13 rfl (by decide) ?_
    refine g_goto (q := 18) hx d_Co_kind_14 rfl ?_
    refine g_ci (q := 21) (zrunU hx d_Co_kind_18 hc hl hX rfl rfl (Nat.le_of_ble_eq_true rfl) (by decide) (by omega) (by omega) ((hbit M s (27 + 4 * b) _ b1 s1 _ hI (Or.inl ⟨by omega, rfl⟩) (by omega) e1).2 _)) rfl (fun r18 M1 p18 => ?_)
    obtain ⟨rfl, hI1⟩ := p18
    have gb1 := (hbit M s (27 + 4 * b) _ b1 s1 _ hI (Or.inl ⟨by omega, rfl⟩) (by omega) e1).1
    refine g_if_ne (q := 24) (t := 26) hx d_Co_kind_21 rfl rfl (zb_ne0 (by omega)) (fun h21 => ?_) (fun h21 => ?_)
    · rw [if_neg (by omega)] at h
      obtain ⟨b2, s2, e2, h⟩ := xB_some.mp h
      refine g_aload_n (q := 27) hx d_Co_kind_26 rfl rfl ?_
      refine g_iload_n (q := 28) hx d_Co_kind_27 rfl rfl ?_
      refine g_iconst (q := 29) (v := nI 1) hx d_Co_kind_28 rfl (by decide) ?_
      refine g_iadd (q := 30) hx d_Co_kind_29 rfl (nI_add _ _) ?_
      refine g_iload_n (q := 31) hx d_Co_kind_30 rfl rfl ?_
      refine g_iconst (q := 32) (v := nI 4) hx d_Co_kind_31 rfl (by decide) ?_
      refine g_icmp_ne (q := 35) (t := 39) hx d_Co_kind_32 rfl rfl (not_congr (nI_eq (by omega) (by omega))) (fun h32 => ?_) (fun h32 => ?_)
      · rw [if_neg (by omega)] at e2
        refine g_iconst (q := 40) (v := nI 1) hx d_Co_kind_39 rfl (by decide) ?_
        refine g_ci (q := 43) (zrunU hx d_Co_kind_40 hc hl hX rfl rfl (Nat.le_of_ble_eq_true rfl) (by decide) (by omega) (by omega) ((hbit M1 s1 (27 + 4 * b + 1) _ b2 s2 _ hI1 (Or.inl ⟨by omega, rfl⟩) (by omega) e2).2 _)) rfl (fun r40 M2 p40 => ?_)
        obtain ⟨rfl, hI2⟩ := p40
        have gb2 := (hbit M1 s1 (27 + 4 * b + 1) _ b2 s2 _ hI1 (Or.inl ⟨by omega, rfl⟩) (by omega) e2).1
        refine g_if_ne (q := 46) (t := 48) hx d_Co_kind_43 rfl rfl (zb_ne0 (by omega)) (fun h43 => ?_) (fun h43 => ?_)
        · rw [if_neg (by omega)] at h
          obtain ⟨b3, s3, e3, h⟩ := xB_some.mp h
          refine g_aload_n (q := 49) hx d_Co_kind_48 rfl rfl ?_
          refine g_iload_n (q := 50) hx d_Co_kind_49 rfl rfl ?_
          refine g_iconst (q := 51) (v := nI 2) hx d_Co_kind_50 rfl (by decide) ?_
          refine g_iadd (q := 52) hx d_Co_kind_51 rfl (nI_add _ _) ?_
          refine g_iload_n (q := 53) hx d_Co_kind_52 rfl rfl ?_
          refine g_iconst (q := 54) (v := nI 1) hx d_Co_kind_53 rfl (by decide) ?_
          refine g_icmp_ne (q := 57) (t := 61) hx d_Co_kind_54 rfl rfl (not_congr (nI_eq (by omega) (by omega))) (fun h54 => ?_) (fun h54 => ?_)
          · rw [if_neg (by omega)] at e3
            refine g_iconst (q := 62) (v := nI 1) hx d_Co_kind_61 rfl (by decide) ?_
            refine g_ci (q := 65) (zrunU hx d_Co_kind_62 hc hl hX rfl rfl (Nat.le_of_ble_eq_true rfl) (by decide) (by omega) (by omega) ((hbit M2 s2 (27 + 4 * b + 2) _ b3 s3 _ hI2 (Or.inl ⟨by omega, rfl⟩) (by omega) e3).2 _)) rfl (fun r62 M3 p62 => ?_)
            obtain ⟨rfl, hI3⟩ := p62
            have gb3 := (hbit M2 s2 (27 + 4 * b + 2) _ b3 s3 _ hI2 (Or.inl ⟨by omega, rfl⟩) (by omega) e3).1
            refine g_if_ne (q := 68) (t := 70) hx d_Co_kind_65 rfl rfl (zb_ne0 (by omega)) (fun h65 => ?_) (fun h65 => ?_)
            · rw [if_neg (by omega)] at h
              obtain ⟨b4, s4, e4, h⟩ := xB_some.mp h
              refine g_aload_n (q := 71) hx d_Co_kind_70 rfl rfl ?_
              refine g_iload_n (q := 72) hx d_Co_kind_71 rfl rfl ?_
              refine g_iconst (q := 73) (v := nI 3) hx d_Co_kind_72 rfl (by decide) ?_
              refine g_iadd (q := 74) hx d_Co_kind_73 rfl (nI_add _ _) ?_
              refine g_iload_n (q := 75) hx d_Co_kind_74 rfl rfl ?_
              refine g_iconst (q := 76) (v := nI 2) hx d_Co_kind_75 rfl (by decide) ?_
              refine g_icmp_ne (q := 79) (t := 83) hx d_Co_kind_76 rfl rfl (not_congr (nI_eq (by omega) (by omega))) (fun h76 => ?_) (fun h76 => ?_)
              · rw [if_neg (by omega)] at e4
                refine g_iconst (q := 84) (v := nI 1) hx d_Co_kind_83 rfl (by decide) ?_
                refine g_ci (q := 87) (zrunU hx d_Co_kind_84 hc hl hX rfl rfl (Nat.le_of_ble_eq_true rfl) (by decide) (by omega) (by omega) ((hbit M3 s3 (27 + 4 * b + 3) _ b4 s4 _ hI3 (Or.inl ⟨by omega, rfl⟩) (by omega) e4).2 _)) rfl (fun r84 M4 p84 => ?_)
                obtain ⟨rfl, hI4⟩ := p84
                have gb4 := (hbit M3 s3 (27 + 4 * b + 3) _ b4 s4 _ hI3 (Or.inl ⟨by omega, rfl⟩) (by omega) e4).1
                refine g_if_ne (q := 90) (t := 94) hx d_Co_kind_87 rfl rfl (zb_ne0 (by omega)) (fun h87 => ?_) (fun h87 => ?_)
                · obtain ⟨e5, rfl⟩ := Prod.mk.inj (Option.some.inj h)
                  rw [if_neg (by omega)] at e5
                  subst e5
                  refine g_iconst (q := 95) (v := nI 3) hx d_Co_kind_94 rfl (by decide) ?_
                  exact g_iret hx d_Co_kind_95 rfl hQ ⟨Nat.le_refl _, Nat.le_refl _⟩ ⟨_, rfl, rfl, rfl, rfl, hI4⟩
                · obtain ⟨e5, rfl⟩ := Prod.mk.inj (Option.some.inj h)
                  rw [if_pos (by omega)] at e5
                  subst e5
                  refine g_iconst (q := 91) (v := nI 2) hx d_Co_kind_90 rfl (by decide) ?_
                  refine g_goto (q := 95) hx d_Co_kind_91 rfl ?_
                  exact g_iret hx d_Co_kind_95 rfl hQ ⟨Nat.le_refl _, Nat.le_refl _⟩ ⟨_, rfl, rfl, rfl, rfl, hI4⟩
              · rw [if_pos (by omega)] at e4
                refine g_iconst (q := 80) (v := nI 0) hx d_Co_kind_79 rfl (by decide) ?_
                refine g_goto (q := 84) hx d_Co_kind_80 rfl ?_
                refine g_ci (q := 87) (zrunU hx d_Co_kind_84 hc hl hX rfl rfl (Nat.le_of_ble_eq_true rfl) (by decide) (by omega) (by omega) ((hbit M3 s3 (27 + 4 * b + 3) _ b4 s4 _ hI3 (Or.inl ⟨by omega, rfl⟩) (by omega) e4).2 _)) rfl (fun r84 M4 p84 => ?_)
                obtain ⟨rfl, hI4⟩ := p84
                have gb4 := (hbit M3 s3 (27 + 4 * b + 3) _ b4 s4 _ hI3 (Or.inl ⟨by omega, rfl⟩) (by omega) e4).1
                refine g_if_ne (q := 90) (t := 94) hx d_Co_kind_87 rfl rfl (zb_ne0 (by omega)) (fun h87 => ?_) (fun h87 => ?_)
                · obtain ⟨e5, rfl⟩ := Prod.mk.inj (Option.some.inj h)
                  rw [if_neg (by omega)] at e5
                  subst e5
                  refine g_iconst (q := 95) (v := nI 3) hx d_Co_kind_94 rfl (by decide) ?_
                  exact g_iret hx d_Co_kind_95 rfl hQ ⟨Nat.le_refl _, Nat.le_refl _⟩ ⟨_, rfl, rfl, rfl, rfl, hI4⟩
                · obtain ⟨e5, rfl⟩ := Prod.mk.inj (Option.some.inj h)
                  rw [if_pos (by omega)] at e5
                  subst e5
                  refine g_iconst (q := 91) (v := nI 2) hx d_Co_kind_90 rfl (by decide) ?_
                  refine g_goto (q := 95) hx d_Co_kind_91 rfl ?_
                  exact g_iret hx d_Co_kind_95 rfl hQ ⟨Nat.le_refl _, Nat.le_refl _⟩ ⟨_, rfl, rfl, rfl, rfl, hI4⟩
            · rw [if_pos (by omega)] at h
              obtain ⟨rfl, rfl⟩ := Prod.mk.inj (Option.some.inj h)
              refine g_iconst (q := 69) (v := nI 1) hx d_Co_kind_68 rfl (by decide) ?_
              exact g_iret hx d_Co_kind_69 rfl hQ ⟨Nat.le_refl _, Nat.le_refl _⟩ ⟨_, rfl, rfl, rfl, rfl, hI3⟩
          · rw [if_pos (by omega)] at e3
            refine g_iconst (q := 58) (v := nI 0) hx d_Co_kind_57 rfl (by decide) ?_
            refine g_goto (q := 62) hx d_Co_kind_58 rfl ?_
            refine g_ci (q := 65) (zrunU hx d_Co_kind_62 hc hl hX rfl rfl (Nat.le_of_ble_eq_true rfl) (by decide) (by omega) (by omega) ((hbit M2 s2 (27 + 4 * b + 2) _ b3 s3 _ hI2 (Or.inl ⟨by omega, rfl⟩) (by omega) e3).2 _)) rfl (fun r62 M3 p62 => ?_)
            obtain ⟨rfl, hI3⟩ := p62
            have gb3 := (hbit M2 s2 (27 + 4 * b + 2) _ b3 s3 _ hI2 (Or.inl ⟨by omega, rfl⟩) (by omega) e3).1
            refine g_if_ne (q := 68) (t := 70) hx d_Co_kind_65 rfl rfl (zb_ne0 (by omega)) (fun h65 => ?_) (fun h65 => ?_)
            · rw [if_neg (by omega)] at h
              obtain ⟨b4, s4, e4, h⟩ := xB_some.mp h
              refine g_aload_n (q := 71) hx d_Co_kind_70 rfl rfl ?_
              refine g_iload_n (q := 72) hx d_Co_kind_71 rfl rfl ?_
              refine g_iconst (q := 73) (v := nI 3) hx d_Co_kind_72 rfl (by decide) ?_
              refine g_iadd (q := 74) hx d_Co_kind_73 rfl (nI_add _ _) ?_
              refine g_iload_n (q := 75) hx d_Co_kind_74 rfl rfl ?_
              refine g_iconst (q := 76) (v := nI 2) hx d_Co_kind_75 rfl (by decide) ?_
              refine g_icmp_ne (q := 79) (t := 83) hx d_Co_kind_76 rfl rfl (not_congr (nI_eq (by omega) (by omega))) (fun h76 => ?_) (fun h76 => ?_)
              · rw [if_neg (by omega)] at e4
                refine g_iconst (q := 84) (v := nI 1) hx d_Co_kind_83 rfl (by decide) ?_
                refine g_ci (q := 87) (zrunU hx d_Co_kind_84 hc hl hX rfl rfl (Nat.le_of_ble_eq_true rfl) (by decide) (by omega) (by omega) ((hbit M3 s3 (27 + 4 * b + 3) _ b4 s4 _ hI3 (Or.inl ⟨by omega, rfl⟩) (by omega) e4).2 _)) rfl (fun r84 M4 p84 => ?_)
                obtain ⟨rfl, hI4⟩ := p84
                have gb4 := (hbit M3 s3 (27 + 4 * b + 3) _ b4 s4 _ hI3 (Or.inl ⟨by omega, rfl⟩) (by omega) e4).1
                refine g_if_ne (q := 90) (t := 94) hx d_Co_kind_87 rfl rfl (zb_ne0 (by omega)) (fun h87 => ?_) (fun h87 => ?_)
                · obtain ⟨e5, rfl⟩ := Prod.mk.inj (Option.some.inj h)
                  rw [if_neg (by omega)] at e5
                  subst e5
                  refine g_iconst (q := 95) (v := nI 3) hx d_Co_kind_94 rfl (by decide) ?_
                  exact g_iret hx d_Co_kind_95 rfl hQ ⟨Nat.le_refl _, Nat.le_refl _⟩ ⟨_, rfl, rfl, rfl, rfl, hI4⟩
                · obtain ⟨e5, rfl⟩ := Prod.mk.inj (Option.some.inj h)
                  rw [if_pos (by omega)] at e5
                  subst e5
                  refine g_iconst (q := 91) (v := nI 2) hx d_Co_kind_90 rfl (by decide) ?_
                  refine g_goto (q := 95) hx d_Co_kind_91 rfl ?_
                  exact g_iret hx d_Co_kind_95 rfl hQ ⟨Nat.le_refl _, Nat.le_refl _⟩ ⟨_, rfl, rfl, rfl, rfl, hI4⟩
              · rw [if_pos (by omega)] at e4
                refine g_iconst (q := 80) (v := nI 0) hx d_Co_kind_79 rfl (by decide) ?_
                refine g_goto (q := 84) hx d_Co_kind_80 rfl ?_
                refine g_ci (q := 87) (zrunU hx d_Co_kind_84 hc hl hX rfl rfl (Nat.le_of_ble_eq_true rfl) (by decide) (by omega) (by omega) ((hbit M3 s3 (27 + 4 * b + 3) _ b4 s4 _ hI3 (Or.inl ⟨by omega, rfl⟩) (by omega) e4).2 _)) rfl (fun r84 M4 p84 => ?_)
                obtain ⟨rfl, hI4⟩ := p84
                have gb4 := (hbit M3 s3 (27 + 4 * b + 3) _ b4 s4 _ hI3 (Or.inl ⟨by omega, rfl⟩) (by omega) e4).1
                refine g_if_ne (q := 90) (t := 94) hx d_Co_kind_87 rfl rfl (zb_ne0 (by omega)) (fun h87 => ?_) (fun h87 => ?_)
                · obtain ⟨e5, rfl⟩ := Prod.mk.inj (Option.some.inj h)
                  rw [if_neg (by omega)] at e5
                  subst e5
                  refine g_iconst (q := 95) (v := nI 3) hx d_Co_kind_94 rfl (by decide) ?_
                  exact g_iret hx d_Co_kind_95 rfl hQ ⟨Nat.le_refl _, Nat.le_refl _⟩ ⟨_, rfl, rfl, rfl, rfl, hI4⟩
                · obtain ⟨e5, rfl⟩ := Prod.mk.inj (Option.some.inj h)
                  rw [if_pos (by omega)] at e5
                  subst e5
                  refine g_iconst (q := 91) (v := nI 2) hx d_Co_kind_90 rfl (by decide) ?_
                  refine g_goto (q := 95) hx d_Co_kind_91 rfl ?_
                  exact g_iret hx d_Co_kind_95 rfl hQ ⟨Nat.le_refl _, Nat.le_refl _⟩ ⟨_, rfl, rfl, rfl, rfl, hI4⟩
            · rw [if_pos (by omega)] at h
              obtain ⟨rfl, rfl⟩ := Prod.mk.inj (Option.some.inj h)
              refine g_iconst (q := 69) (v := nI 1) hx d_Co_kind_68 rfl (by decide) ?_
              exact g_iret hx d_Co_kind_69 rfl hQ ⟨Nat.le_refl _, Nat.le_refl _⟩ ⟨_, rfl, rfl, rfl, rfl, hI3⟩
        · rw [if_pos (by omega)] at h
          obtain ⟨rfl, rfl⟩ := Prod.mk.inj (Option.some.inj h)
          refine g_iconst (q := 47) (v := nI 4) hx d_Co_kind_46 rfl (by decide) ?_
          exact g_iret hx d_Co_kind_47 rfl hQ ⟨Nat.le_refl _, Nat.le_refl _⟩ ⟨_, rfl, rfl, rfl, rfl, hI2⟩
      · rw [if_pos (by omega)] at e2
        refine g_iconst (q := 36) (v := nI 0) hx d_Co_kind_35 rfl (by decide) ?_
        refine g_goto (q := 40) hx d_Co_kind_36 rfl ?_
        refine g_ci (q := 43) (zrunU hx d_Co_kind_40 hc hl hX rfl rfl (Nat.le_of_ble_eq_true rfl) (by decide) (by omega) (by omega) ((hbit M1 s1 (27 + 4 * b + 1) _ b2 s2 _ hI1 (Or.inl ⟨by omega, rfl⟩) (by omega) e2).2 _)) rfl (fun r40 M2 p40 => ?_)
        obtain ⟨rfl, hI2⟩ := p40
        have gb2 := (hbit M1 s1 (27 + 4 * b + 1) _ b2 s2 _ hI1 (Or.inl ⟨by omega, rfl⟩) (by omega) e2).1
        refine g_if_ne (q := 46) (t := 48) hx d_Co_kind_43 rfl rfl (zb_ne0 (by omega)) (fun h43 => ?_) (fun h43 => ?_)
        · rw [if_neg (by omega)] at h
          obtain ⟨b3, s3, e3, h⟩ := xB_some.mp h
          refine g_aload_n (q := 49) hx d_Co_kind_48 rfl rfl ?_
          refine g_iload_n (q := 50) hx d_Co_kind_49 rfl rfl ?_
          refine g_iconst (q := 51) (v := nI 2) hx d_Co_kind_50 rfl (by decide) ?_
          refine g_iadd (q := 52) hx d_Co_kind_51 rfl (nI_add _ _) ?_
          refine g_iload_n (q := 53) hx d_Co_kind_52 rfl rfl ?_
          refine g_iconst (q := 54) (v := nI 1) hx d_Co_kind_53 rfl (by decide) ?_
          refine g_icmp_ne (q := 57) (t := 61) hx d_Co_kind_54 rfl rfl (not_congr (nI_eq (by omega) (by omega))) (fun h54 => ?_) (fun h54 => ?_)
          · rw [if_neg (by omega)] at e3
            refine g_iconst (q := 62) (v := nI 1) hx d_Co_kind_61 rfl (by decide) ?_
            refine g_ci (q := 65) (zrunU hx d_Co_kind_62 hc hl hX rfl rfl (Nat.le_of_ble_eq_true rfl) (by decide) (by omega) (by omega) ((hbit M2 s2 (27 + 4 * b + 2) _ b3 s3 _ hI2 (Or.inl ⟨by omega, rfl⟩) (by omega) e3).2 _)) rfl (fun r62 M3 p62 => ?_)
            obtain ⟨rfl, hI3⟩ := p62
            have gb3 := (hbit M2 s2 (27 + 4 * b + 2) _ b3 s3 _ hI2 (Or.inl ⟨by omega, rfl⟩) (by omega) e3).1
            refine g_if_ne (q := 68) (t := 70) hx d_Co_kind_65 rfl rfl (zb_ne0 (by omega)) (fun h65 => ?_) (fun h65 => ?_)
            · rw [if_neg (by omega)] at h
              obtain ⟨b4, s4, e4, h⟩ := xB_some.mp h
              refine g_aload_n (q := 71) hx d_Co_kind_70 rfl rfl ?_
              refine g_iload_n (q := 72) hx d_Co_kind_71 rfl rfl ?_
              refine g_iconst (q := 73) (v := nI 3) hx d_Co_kind_72 rfl (by decide) ?_
              refine g_iadd (q := 74) hx d_Co_kind_73 rfl (nI_add _ _) ?_
              refine g_iload_n (q := 75) hx d_Co_kind_74 rfl rfl ?_
              refine g_iconst (q := 76) (v := nI 2) hx d_Co_kind_75 rfl (by decide) ?_
              refine g_icmp_ne (q := 79) (t := 83) hx d_Co_kind_76 rfl rfl (not_congr (nI_eq (by omega) (by omega))) (fun h76 => ?_) (fun h76 => ?_)
              · rw [if_neg (by omega)] at e4
                refine g_iconst (q := 84) (v := nI 1) hx d_Co_kind_83 rfl (by decide) ?_
                refine g_ci (q := 87) (zrunU hx d_Co_kind_84 hc hl hX rfl rfl (Nat.le_of_ble_eq_true rfl) (by decide) (by omega) (by omega) ((hbit M3 s3 (27 + 4 * b + 3) _ b4 s4 _ hI3 (Or.inl ⟨by omega, rfl⟩) (by omega) e4).2 _)) rfl (fun r84 M4 p84 => ?_)
                obtain ⟨rfl, hI4⟩ := p84
                have gb4 := (hbit M3 s3 (27 + 4 * b + 3) _ b4 s4 _ hI3 (Or.inl ⟨by omega, rfl⟩) (by omega) e4).1
                refine g_if_ne (q := 90) (t := 94) hx d_Co_kind_87 rfl rfl (zb_ne0 (by omega)) (fun h87 => ?_) (fun h87 => ?_)
                · obtain ⟨e5, rfl⟩ := Prod.mk.inj (Option.some.inj h)
                  rw [if_neg (by omega)] at e5
                  subst e5
                  refine g_iconst (q := 95) (v := nI 3) hx d_Co_kind_94 rfl (by decide) ?_
                  exact g_iret hx d_Co_kind_95 rfl hQ ⟨Nat.le_refl _, Nat.le_refl _⟩ ⟨_, rfl, rfl, rfl, rfl, hI4⟩
                · obtain ⟨e5, rfl⟩ := Prod.mk.inj (Option.some.inj h)
                  rw [if_pos (by omega)] at e5
                  subst e5
                  refine g_iconst (q := 91) (v := nI 2) hx d_Co_kind_90 rfl (by decide) ?_
                  refine g_goto (q := 95) hx d_Co_kind_91 rfl ?_
                  exact g_iret hx d_Co_kind_95 rfl hQ ⟨Nat.le_refl _, Nat.le_refl _⟩ ⟨_, rfl, rfl, rfl, rfl, hI4⟩
              · rw [if_pos (by omega)] at e4
                refine g_iconst (q := 80) (v := nI 0) hx d_Co_kind_79 rfl (by decide) ?_
                refine g_goto (q := 84) hx d_Co_kind_80 rfl ?_
                refine g_ci (q := 87) (zrunU hx d_Co_kind_84 hc hl hX rfl rfl (Nat.le_of_ble_eq_true rfl) (by decide) (by omega) (by omega) ((hbit M3 s3 (27 + 4 * b + 3) _ b4 s4 _ hI3 (Or.inl ⟨by omega, rfl⟩) (by omega) e4).2 _)) rfl (fun r84 M4 p84 => ?_)
                obtain ⟨rfl, hI4⟩ := p84
                have gb4 := (hbit M3 s3 (27 + 4 * b + 3) _ b4 s4 _ hI3 (Or.inl ⟨by omega, rfl⟩) (by omega) e4).1
                refine g_if_ne (q := 90) (t := 94) hx d_Co_kind_87 rfl rfl (zb_ne0 (by omega)) (fun h87 => ?_) (fun h87 => ?_)
                · obtain ⟨e5, rfl⟩ := Prod.mk.inj (Option.some.inj h)
                  rw [if_neg (by omega)] at e5
                  subst e5
                  refine g_iconst (q := 95) (v := nI 3) hx d_Co_kind_94 rfl (by decide) ?_
                  exact g_iret hx d_Co_kind_95 rfl hQ ⟨Nat.le_refl _, Nat.le_refl _⟩ ⟨_, rfl, rfl, rfl, rfl, hI4⟩
                · obtain ⟨e5, rfl⟩ := Prod.mk.inj (Option.some.inj h)
                  rw [if_pos (by omega)] at e5
                  subst e5
                  refine g_iconst (q := 91) (v := nI 2) hx d_Co_kind_90 rfl (by decide) ?_
                  refine g_goto (q := 95) hx d_Co_kind_91 rfl ?_
                  exact g_iret hx d_Co_kind_95 rfl hQ ⟨Nat.le_refl _, Nat.le_refl _⟩ ⟨_, rfl, rfl, rfl, rfl, hI4⟩
            · rw [if_pos (by omega)] at h
              obtain ⟨rfl, rfl⟩ := Prod.mk.inj (Option.some.inj h)
              refine g_iconst (q := 69) (v := nI 1) hx d_Co_kind_68 rfl (by decide) ?_
              exact g_iret hx d_Co_kind_69 rfl hQ ⟨Nat.le_refl _, Nat.le_refl _⟩ ⟨_, rfl, rfl, rfl, rfl, hI3⟩
          · rw [if_pos (by omega)] at e3
            refine g_iconst (q := 58) (v := nI 0) hx d_Co_kind_57 rfl (by decide) ?_
            refine g_goto (q := 62) hx d_Co_kind_58 rfl ?_
            refine g_ci (q := 65) (zrunU hx d_Co_kind_62 hc hl hX rfl rfl (Nat.le_of_ble_eq_true rfl) (by decide) (by omega) (by omega) ((hbit M2 s2 (27 + 4 * b + 2) _ b3 s3 _ hI2 (Or.inl ⟨by omega, rfl⟩) (by omega) e3).2 _)) rfl (fun r62 M3 p62 => ?_)
            obtain ⟨rfl, hI3⟩ := p62
            have gb3 := (hbit M2 s2 (27 + 4 * b + 2) _ b3 s3 _ hI2 (Or.inl ⟨by omega, rfl⟩) (by omega) e3).1
            refine g_if_ne (q := 68) (t := 70) hx d_Co_kind_65 rfl rfl (zb_ne0 (by omega)) (fun h65 => ?_) (fun h65 => ?_)
            · rw [if_neg (by omega)] at h
              obtain ⟨b4, s4, e4, h⟩ := xB_some.mp h
              refine g_aload_n (q := 71) hx d_Co_kind_70 rfl rfl ?_
              refine g_iload_n (q := 72) hx d_Co_kind_71 rfl rfl ?_
              refine g_iconst (q := 73) (v := nI 3) hx d_Co_kind_72 rfl (by decide) ?_
              refine g_iadd (q := 74) hx d_Co_kind_73 rfl (nI_add _ _) ?_
              refine g_iload_n (q := 75) hx d_Co_kind_74 rfl rfl ?_
              refine g_iconst (q := 76) (v := nI 2) hx d_Co_kind_75 rfl (by decide) ?_
              refine g_icmp_ne (q := 79) (t := 83) hx d_Co_kind_76 rfl rfl (not_congr (nI_eq (by omega) (by omega))) (fun h76 => ?_) (fun h76 => ?_)
              · rw [if_neg (by omega)] at e4
                refine g_iconst (q := 84) (v := nI 1) hx d_Co_kind_83 rfl (by decide) ?_
                refine g_ci (q := 87) (zrunU hx d_Co_kind_84 hc hl hX rfl rfl (Nat.le_of_ble_eq_true rfl) (by decide) (by omega) (by omega) ((hbit M3 s3 (27 + 4 * b + 3) _ b4 s4 _ hI3 (Or.inl ⟨by omega, rfl⟩) (by omega) e4).2 _)) rfl (fun r84 M4 p84 => ?_)
                obtain ⟨rfl, hI4⟩ := p84
                have gb4 := (hbit M3 s3 (27 + 4 * b + 3) _ b4 s4 _ hI3 (Or.inl ⟨by omega, rfl⟩) (by omega) e4).1
                refine g_if_ne (q := 90) (t := 94) hx d_Co_kind_87 rfl rfl (zb_ne0 (by omega)) (fun h87 => ?_) (fun h87 => ?_)
                · obtain ⟨e5, rfl⟩ := Prod.mk.inj (Option.some.inj h)
                  rw [if_neg (by omega)] at e5
                  subst e5
                  refine g_iconst (q := 95) (v := nI 3) hx d_Co_kind_94 rfl (by decide) ?_
                  exact g_iret hx d_Co_kind_95 rfl hQ ⟨Nat.le_refl _, Nat.le_refl _⟩ ⟨_, rfl, rfl, rfl, rfl, hI4⟩
                · obtain ⟨e5, rfl⟩ := Prod.mk.inj (Option.some.inj h)
                  rw [if_pos (by omega)] at e5
                  subst e5
                  refine g_iconst (q := 91) (v := nI 2) hx d_Co_kind_90 rfl (by decide) ?_
                  refine g_goto (q := 95) hx d_Co_kind_91 rfl ?_
                  exact g_iret hx d_Co_kind_95 rfl hQ ⟨Nat.le_refl _, Nat.le_refl _⟩ ⟨_, rfl, rfl, rfl, rfl, hI4⟩
              · rw [if_pos (by omega)] at e4
                refine g_iconst (q := 80) (v := nI 0) hx d_Co_kind_79 rfl (by decide) ?_
                refine g_goto (q := 84) hx d_Co_kind_80 rfl ?_
                refine g_ci (q := 87) (zrunU hx d_Co_kind_84 hc hl hX rfl rfl (Nat.le_of_ble_eq_true rfl) (by decide) (by omega) (by omega) ((hbit M3 s3 (27 + 4 * b + 3) _ b4 s4 _ hI3 (Or.inl ⟨by omega, rfl⟩) (by omega) e4).2 _)) rfl (fun r84 M4 p84 => ?_)
                obtain ⟨rfl, hI4⟩ := p84
                have gb4 := (hbit M3 s3 (27 + 4 * b + 3) _ b4 s4 _ hI3 (Or.inl ⟨by omega, rfl⟩) (by omega) e4).1
                refine g_if_ne (q := 90) (t := 94) hx d_Co_kind_87 rfl rfl (zb_ne0 (by omega)) (fun h87 => ?_) (fun h87 => ?_)
                · obtain ⟨e5, rfl⟩ := Prod.mk.inj (Option.some.inj h)
                  rw [if_neg (by omega)] at e5
                  subst e5
                  refine g_iconst (q := 95) (v := nI 3) hx d_Co_kind_94 rfl (by decide) ?_
                  exact g_iret hx d_Co_kind_95 rfl hQ ⟨Nat.le_refl _, Nat.le_refl _⟩ ⟨_, rfl, rfl, rfl, rfl, hI4⟩
                · obtain ⟨e5, rfl⟩ := Prod.mk.inj (Option.some.inj h)
                  rw [if_pos (by omega)] at e5
                  subst e5
                  refine g_iconst (q := 91) (v := nI 2) hx d_Co_kind_90 rfl (by decide) ?_
                  refine g_goto (q := 95) hx d_Co_kind_91 rfl ?_
                  exact g_iret hx d_Co_kind_95 rfl hQ ⟨Nat.le_refl _, Nat.le_refl _⟩ ⟨_, rfl, rfl, rfl, rfl, hI4⟩
            · rw [if_pos (by omega)] at h
              obtain ⟨rfl, rfl⟩ := Prod.mk.inj (Option.some.inj h)
              refine g_iconst (q := 69) (v := nI 1) hx d_Co_kind_68 rfl (by decide) ?_
              exact g_iret hx d_Co_kind_69 rfl hQ ⟨Nat.le_refl _, Nat.le_refl _⟩ ⟨_, rfl, rfl, rfl, rfl, hI3⟩
        · rw [if_pos (by omega)] at h
          obtain ⟨rfl, rfl⟩ := Prod.mk.inj (Option.some.inj h)
          refine g_iconst (q := 47) (v := nI 4) hx d_Co_kind_46 rfl (by decide) ?_
          exact g_iret hx d_Co_kind_47 rfl hQ ⟨Nat.le_refl _, Nat.le_refl _⟩ ⟨_, rfl, rfl, rfl, rfl, hI2⟩
    · rw [if_pos (by omega)] at h
      obtain ⟨rfl, rfl⟩ := Prod.mk.inj (Option.some.inj h)
      refine g_iconst (q := 25) (v := nI 0) hx d_Co_kind_24 rfl (by decide) ?_
      exact g_iret hx d_Co_kind_25 rfl hQ ⟨Nat.le_refl _, Nat.le_refl _⟩ ⟨_, rfl, rfl, rfl, rfl, hI1⟩
set_option maxHeartbeats 4000000 in
set_option maxRecDepth 100000 in
/-- change(a, b) -/
theorem c_Co_change (l : Launch) (E : zE) (Γ : zG) (n : Nat) (M : zM) (X c : Nat) (r : vw_C) {σ : Type} (R : σ → Nat → Nat → Option (Nat × σ)) (I : zM → σ → Prop) (hbit : zBit E Γ n X R I) (hc : zCl[c]? = some r) (hl : zLb r) (hX : Γ X = some (0, c)) (s : σ) (hI : I M s) (a b w : Nat) (t : σ) (ha : a < 4) (hb : b < 4) (hab : b < a ∨ 1 ≤ b) (h : xC R a b s = some (w, t)) :
    zCt l E Y_Co_change 2 (0, 0) [.ref X, .int (nI a), .int (nI b)] Γ n M (zPi Γ n (fun v M' => v = nI w ∧ I M' t)) := by
  refine zCt.of [(0, .ref X), (1, .int (nI a)), (2, .int (nI b))] (by decide) (Nat.le_of_ble_eq_true rfl) rfl (fun f hfl hx hQ => ?_)
  unfold xC at h
  obtain ⟨b1, s1, e1, h⟩ := xB_some.mp h
  refine g_iload_n (q := 1) hx d_Co_change_0 rfl rfl ?_
  refine g_iload_n (q := 2) hx d_Co_change_1 rfl rfl ?_
  refine g_icmp_ge (q := 5) (t := 9) hx d_Co_change_2 rfl rfl (nI_leI (by omega) (by omega)) (fun h2 => ?_) (fun h2 => ?_)
  · have hch : mChg a b = b - 1 := if_neg (by omega)
    refine g_iload_n (q := 10) hx d_Co_change_9 rfl rfl ?_
    refine g_iconst (q := 11) (v := nI 1) hx d_Co_change_10 rfl (by decide) ?_
    refine g_isub (q := 12) hx d_Co_change_11 rfl (pk_sub (by omega)) ?_
    refine g_istore_n (q := 13) (lc' := [(3, _), (0, _), (1, _), (2, _)]) hx d_Co_change_12 rfl (by decide) rfl ?_
    rw [hch] at e1 h
    refine g_bipush (q := 15) (v := nI 47) hx d_Co_change_13 rfl (by decide) ?_
    refine g_iconst (q := 16) (v := nI 2) hx d_Co_change_15 rfl (by decide) ?_
    refine g_iload_n (q := 17) hx d_Co_change_16 rfl rfl ?_
    refine g_imul (q := 18) hx d_Co_change_17 rfl (pk_mul _ _) ?_
    refine g_iadd (q := 19) hx d_Co_change_18 rfl (nI_add _ _) ?_
    refine g_istore (q := 21) (lc' := [(4, _), (3, _), (0, _), (1, _), (2, _)]) hx d_Co_change_19 rfl (by decide) rfl ?_
    refine g_aload_n (q := 22) hx d_Co_change_21 rfl rfl ?_
    refine g_iload (q := 24) hx d_Co_change_22 rfl rfl ?_
    refine g_iload_n (q := 25) hx d_Co_change_24 rfl rfl ?_
    refine g_if_ne (q := 28) (t := 32) hx d_Co_change_25 rfl rfl (zb_ne0 (by omega)) (fun h25 => ?_) (fun h25 => ?_)
    · rw [if_neg (by omega)] at e1
      refine g_iconst (q := 33) (v := nI 1) hx d_Co_change_32 rfl (by decide) ?_
      refine g_ci (q := 36) (zrunU hx d_Co_change_33 hc hl hX rfl rfl (Nat.le_of_ble_eq_true rfl) (by decide) (by omega) (by omega) ((hbit M s (47 + 2 * a) _ b1 s1 _ hI (Or.inl ⟨by omega, rfl⟩) (by omega) e1).2 _)) rfl (fun r33 M1 p33 => ?_)
      obtain ⟨rfl, hI1⟩ := p33
      have gb1 := (hbit M s (47 + 2 * a) _ b1 s1 _ hI (Or.inl ⟨by omega, rfl⟩) (by omega) e1).1
      refine g_istore (q := 38) (lc' := [(5, _), (4, _), (3, _), (0, _), (1, _), (2, _)]) hx d_Co_change_36 rfl (by decide) rfl ?_
      refine g_iload (q := 40) hx d_Co_change_38 rfl rfl ?_
      refine g_iconst (q := 41) (v := nI 1) hx d_Co_change_40 rfl (by decide) ?_
      refine g_icmp_ne (q := 44) (t := 67) hx d_Co_change_41 rfl rfl (not_congr (nI_eq (by omega) (by omega))) (fun h41 => ?_) (fun h41 => ?_)
      · try rw [if_neg (by omega : ¬ b1 = 1)] at h
        refine g_iload (q := 69) hx d_Co_change_67 rfl rfl ?_
        refine g_iload_n (q := 70) hx d_Co_change_69 rfl rfl ?_
        refine g_icmp_ge (q := 73) (t := 78) hx d_Co_change_70 rfl rfl (nI_leI (by omega) (by omega)) (fun h70 => ?_) (fun h70 => ?_)
        · obtain ⟨e5, rfl⟩ := Prod.mk.inj (Option.some.inj h)
          rw [if_neg (by omega)] at e5
          subst e5
          refine g_iload (q := 80) hx d_Co_change_78 rfl rfl ?_
          refine g_iconst (q := 81) (v := nI 1) hx d_Co_change_80 rfl (by decide) ?_
          refine g_iadd (q := 82) hx d_Co_change_81 rfl (nI_add _ _) ?_
          exact g_iret hx d_Co_change_82 rfl hQ ⟨Nat.le_refl _, Nat.le_refl _⟩ ⟨_, rfl, rfl, rfl, rfl, by assumption⟩
        · obtain ⟨e5, rfl⟩ := Prod.mk.inj (Option.some.inj h)
          rw [if_pos (by omega)] at e5
          subst e5
          refine g_iload (q := 75) hx d_Co_change_73 rfl rfl ?_
          refine g_goto (q := 82) hx d_Co_change_75 rfl ?_
          exact g_iret hx d_Co_change_82 rfl hQ ⟨Nat.le_refl _, Nat.le_refl _⟩ ⟨_, rfl, rfl, rfl, rfl, by assumption⟩
      · rw [if_pos (by omega)] at h
        obtain ⟨b2, s2, e2, h⟩ := xB_some.mp h
        obtain rfl : b1 = 1 := (by omega)
        refine g_iload (q := 46) hx d_Co_change_44 rfl rfl ?_
        refine g_aload_n (q := 47) hx d_Co_change_46 rfl rfl ?_
        refine g_iload (q := 49) hx d_Co_change_47 rfl rfl ?_
        refine g_iconst (q := 50) (v := nI 1) hx d_Co_change_49 rfl (by decide) ?_
        refine g_iadd (q := 51) hx d_Co_change_50 rfl (nI_add _ _) ?_
        refine g_iload_n (q := 52) hx d_Co_change_51 rfl rfl ?_
        refine g_iconst (q := 53) (v := nI 1) hx d_Co_change_52 rfl (by decide) ?_
        refine g_icmp_ne (q := 56) (t := 60) hx d_Co_change_53 rfl rfl (not_congr (nI_eq (by omega) (by omega))) (fun h53 => ?_) (fun h53 => ?_)
        · rw [if_neg (by omega)] at e2
          refine g_iconst (q := 61) (v := nI 1) hx d_Co_change_60 rfl (by decide) ?_
          refine g_ci (q := 64) (zrunU hx d_Co_change_61 hc hl hX rfl rfl (Nat.le_of_ble_eq_true rfl) (by decide) (by omega) (by omega) ((hbit M1 s1 (47 + 2 * a + 1) _ b2 s2 _ hI1 (Or.inl ⟨by omega, rfl⟩) (by omega) e2).2 _)) rfl (fun r61 M2 p61 => ?_)
          obtain ⟨rfl, hI2⟩ := p61
          have gb2 := (hbit M1 s1 (47 + 2 * a + 1) _ b2 s2 _ hI1 (Or.inl ⟨by omega, rfl⟩) (by omega) e2).1
          refine g_iadd (q := 65) hx d_Co_change_64 rfl (nI_add _ _) ?_
          refine g_istore (q := 67) (lc' := [(5, _), (4, _), (3, _), (0, _), (1, _), (2, _)]) hx d_Co_change_65 rfl (by decide) rfl ?_
          try rw [if_neg (by omega : ¬ b1 = 1)] at h
          refine g_iload (q := 69) hx d_Co_change_67 rfl rfl ?_
          refine g_iload_n (q := 70) hx d_Co_change_69 rfl rfl ?_
          refine g_icmp_ge (q := 73) (t := 78) hx d_Co_change_70 rfl rfl (nI_leI (by omega) (by omega)) (fun h70 => ?_) (fun h70 => ?_)
          · obtain ⟨e5, rfl⟩ := Prod.mk.inj (Option.some.inj h)
            rw [if_neg (by omega)] at e5
            subst e5
            refine g_iload (q := 80) hx d_Co_change_78 rfl rfl ?_
            refine g_iconst (q := 81) (v := nI 1) hx d_Co_change_80 rfl (by decide) ?_
            refine g_iadd (q := 82) hx d_Co_change_81 rfl (nI_add _ _) ?_
            exact g_iret hx d_Co_change_82 rfl hQ ⟨Nat.le_refl _, Nat.le_refl _⟩ ⟨_, rfl, rfl, rfl, rfl, by assumption⟩
          · obtain ⟨e5, rfl⟩ := Prod.mk.inj (Option.some.inj h)
            rw [if_pos (by omega)] at e5
            subst e5
            refine g_iload (q := 75) hx d_Co_change_73 rfl rfl ?_
            refine g_goto (q := 82) hx d_Co_change_75 rfl ?_
            exact g_iret hx d_Co_change_82 rfl hQ ⟨Nat.le_refl _, Nat.le_refl _⟩ ⟨_, rfl, rfl, rfl, rfl, by assumption⟩
        · rw [if_pos (by omega)] at e2
          refine g_iconst (q := 57) (v := nI 0) hx d_Co_change_56 rfl (by decide) ?_
          refine g_goto (q := 61) hx d_Co_change_57 rfl ?_
          refine g_ci (q := 64) (zrunU hx d_Co_change_61 hc hl hX rfl rfl (Nat.le_of_ble_eq_true rfl) (by decide) (by omega) (by omega) ((hbit M1 s1 (47 + 2 * a + 1) _ b2 s2 _ hI1 (Or.inl ⟨by omega, rfl⟩) (by omega) e2).2 _)) rfl (fun r61 M2 p61 => ?_)
          obtain ⟨rfl, hI2⟩ := p61
          have gb2 := (hbit M1 s1 (47 + 2 * a + 1) _ b2 s2 _ hI1 (Or.inl ⟨by omega, rfl⟩) (by omega) e2).1
          refine g_iadd (q := 65) hx d_Co_change_64 rfl (nI_add _ _) ?_
          refine g_istore (q := 67) (lc' := [(5, _), (4, _), (3, _), (0, _), (1, _), (2, _)]) hx d_Co_change_65 rfl (by decide) rfl ?_
          try rw [if_neg (by omega : ¬ b1 = 1)] at h
          refine g_iload (q := 69) hx d_Co_change_67 rfl rfl ?_
          refine g_iload_n (q := 70) hx d_Co_change_69 rfl rfl ?_
          refine g_icmp_ge (q := 73) (t := 78) hx d_Co_change_70 rfl rfl (nI_leI (by omega) (by omega)) (fun h70 => ?_) (fun h70 => ?_)
          · obtain ⟨e5, rfl⟩ := Prod.mk.inj (Option.some.inj h)
            rw [if_neg (by omega)] at e5
            subst e5
            refine g_iload (q := 80) hx d_Co_change_78 rfl rfl ?_
            refine g_iconst (q := 81) (v := nI 1) hx d_Co_change_80 rfl (by decide) ?_
            refine g_iadd (q := 82) hx d_Co_change_81 rfl (nI_add _ _) ?_
            exact g_iret hx d_Co_change_82 rfl hQ ⟨Nat.le_refl _, Nat.le_refl _⟩ ⟨_, rfl, rfl, rfl, rfl, by assumption⟩
          · obtain ⟨e5, rfl⟩ := Prod.mk.inj (Option.some.inj h)
            rw [if_pos (by omega)] at e5
            subst e5
            refine g_iload (q := 75) hx d_Co_change_73 rfl rfl ?_
            refine g_goto (q := 82) hx d_Co_change_75 rfl ?_
            exact g_iret hx d_Co_change_82 rfl hQ ⟨Nat.le_refl _, Nat.le_refl _⟩ ⟨_, rfl, rfl, rfl, rfl, by assumption⟩
    · rw [if_pos (by omega)] at e1
      refine g_iconst (q := 29) (v := nI 0) hx d_Co_change_28 rfl (by decide) ?_
      refine g_goto (q := 33) hx d_Co_change_29 rfl ?_
      refine g_ci (q := 36) (zrunU hx d_Co_change_33 hc hl hX rfl rfl (Nat.le_of_ble_eq_true rfl) (by decide) (by omega) (by omega) ((hbit M s (47 + 2 * a) _ b1 s1 _ hI (Or.inl ⟨by omega, rfl⟩) (by omega) e1).2 _)) rfl (fun r33 M1 p33 => ?_)
      obtain ⟨rfl, hI1⟩ := p33
      have gb1 := (hbit M s (47 + 2 * a) _ b1 s1 _ hI (Or.inl ⟨by omega, rfl⟩) (by omega) e1).1
      refine g_istore (q := 38) (lc' := [(5, _), (4, _), (3, _), (0, _), (1, _), (2, _)]) hx d_Co_change_36 rfl (by decide) rfl ?_
      refine g_iload (q := 40) hx d_Co_change_38 rfl rfl ?_
      refine g_iconst (q := 41) (v := nI 1) hx d_Co_change_40 rfl (by decide) ?_
      refine g_icmp_ne (q := 44) (t := 67) hx d_Co_change_41 rfl rfl (not_congr (nI_eq (by omega) (by omega))) (fun h41 => ?_) (fun h41 => ?_)
      · try rw [if_neg (by omega : ¬ b1 = 1)] at h
        refine g_iload (q := 69) hx d_Co_change_67 rfl rfl ?_
        refine g_iload_n (q := 70) hx d_Co_change_69 rfl rfl ?_
        refine g_icmp_ge (q := 73) (t := 78) hx d_Co_change_70 rfl rfl (nI_leI (by omega) (by omega)) (fun h70 => ?_) (fun h70 => ?_)
        · obtain ⟨e5, rfl⟩ := Prod.mk.inj (Option.some.inj h)
          rw [if_neg (by omega)] at e5
          subst e5
          refine g_iload (q := 80) hx d_Co_change_78 rfl rfl ?_
          refine g_iconst (q := 81) (v := nI 1) hx d_Co_change_80 rfl (by decide) ?_
          refine g_iadd (q := 82) hx d_Co_change_81 rfl (nI_add _ _) ?_
          exact g_iret hx d_Co_change_82 rfl hQ ⟨Nat.le_refl _, Nat.le_refl _⟩ ⟨_, rfl, rfl, rfl, rfl, by assumption⟩
        · obtain ⟨e5, rfl⟩ := Prod.mk.inj (Option.some.inj h)
          rw [if_pos (by omega)] at e5
          subst e5
          refine g_iload (q := 75) hx d_Co_change_73 rfl rfl ?_
          refine g_goto (q := 82) hx d_Co_change_75 rfl ?_
          exact g_iret hx d_Co_change_82 rfl hQ ⟨Nat.le_refl _, Nat.le_refl _⟩ ⟨_, rfl, rfl, rfl, rfl, by assumption⟩
      · rw [if_pos (by omega)] at h
        obtain ⟨b2, s2, e2, h⟩ := xB_some.mp h
        obtain rfl : b1 = 1 := (by omega)
        refine g_iload (q := 46) hx d_Co_change_44 rfl rfl ?_
        refine g_aload_n (q := 47) hx d_Co_change_46 rfl rfl ?_
        refine g_iload (q := 49) hx d_Co_change_47 rfl rfl ?_
        refine g_iconst (q := 50) (v := nI 1) hx d_Co_change_49 rfl (by decide) ?_
        refine g_iadd (q := 51) hx d_Co_change_50 rfl (nI_add _ _) ?_
        refine g_iload_n (q := 52) hx d_Co_change_51 rfl rfl ?_
        refine g_iconst (q := 53) (v := nI 1) hx d_Co_change_52 rfl (by decide) ?_
        refine g_icmp_ne (q := 56) (t := 60) hx d_Co_change_53 rfl rfl (not_congr (nI_eq (by omega) (by omega))) (fun h53 => ?_) (fun h53 => ?_)
        · rw [if_neg (by omega)] at e2
          refine g_iconst (q := 61) (v := nI 1) hx d_Co_change_60 rfl (by decide) ?_
          refine g_ci (q := 64) (zrunU hx d_Co_change_61 hc hl hX rfl rfl (Nat.le_of_ble_eq_true rfl) (by decide) (by omega) (by omega) ((hbit M1 s1 (47 + 2 * a + 1) _ b2 s2 _ hI1 (Or.inl ⟨by omega, rfl⟩) (by omega) e2).2 _)) rfl (fun r61 M2 p61 => ?_)
          obtain ⟨rfl, hI2⟩ := p61
          have gb2 := (hbit M1 s1 (47 + 2 * a + 1) _ b2 s2 _ hI1 (Or.inl ⟨by omega, rfl⟩) (by omega) e2).1
          refine g_iadd (q := 65) hx d_Co_change_64 rfl (nI_add _ _) ?_
          refine g_istore (q := 67) (lc' := [(5, _), (4, _), (3, _), (0, _), (1, _), (2, _)]) hx d_Co_change_65 rfl (by decide) rfl ?_
          try rw [if_neg (by omega : ¬ b1 = 1)] at h
          refine g_iload (q := 69) hx d_Co_change_67 rfl rfl ?_
          refine g_iload_n (q := 70) hx d_Co_change_69 rfl rfl ?_
          refine g_icmp_ge (q := 73) (t := 78) hx d_Co_change_70 rfl rfl (nI_leI (by omega) (by omega)) (fun h70 => ?_) (fun h70 => ?_)
          · obtain ⟨e5, rfl⟩ := Prod.mk.inj (Option.some.inj h)
            rw [if_neg (by omega)] at e5
            subst e5
            refine g_iload (q := 80) hx d_Co_change_78 rfl rfl ?_
            refine g_iconst (q := 81) (v := nI 1) hx d_Co_change_80 rfl (by decide) ?_
            refine g_iadd (q := 82) hx d_Co_change_81 rfl (nI_add _ _) ?_
            exact g_iret hx d_Co_change_82 rfl hQ ⟨Nat.le_refl _, Nat.le_refl _⟩ ⟨_, rfl, rfl, rfl, rfl, by assumption⟩
          · obtain ⟨e5, rfl⟩ := Prod.mk.inj (Option.some.inj h)
            rw [if_pos (by omega)] at e5
            subst e5
            refine g_iload (q := 75) hx d_Co_change_73 rfl rfl ?_
            refine g_goto (q := 82) hx d_Co_change_75 rfl ?_
            exact g_iret hx d_Co_change_82 rfl hQ ⟨Nat.le_refl _, Nat.le_refl _⟩ ⟨_, rfl, rfl, rfl, rfl, by assumption⟩
        · rw [if_pos (by omega)] at e2
          refine g_iconst (q := 57) (v := nI 0) hx d_Co_change_56 rfl (by decide) ?_
          refine g_goto (q := 61) hx d_Co_change_57 rfl ?_
          refine g_ci (q := 64) (zrunU hx d_Co_change_61 hc hl hX rfl rfl (Nat.le_of_ble_eq_true rfl) (by decide) (by omega) (by omega) ((hbit M1 s1 (47 + 2 * a + 1) _ b2 s2 _ hI1 (Or.inl ⟨by omega, rfl⟩) (by omega) e2).2 _)) rfl (fun r61 M2 p61 => ?_)
          obtain ⟨rfl, hI2⟩ := p61
          have gb2 := (hbit M1 s1 (47 + 2 * a + 1) _ b2 s2 _ hI1 (Or.inl ⟨by omega, rfl⟩) (by omega) e2).1
          refine g_iadd (q := 65) hx d_Co_change_64 rfl (nI_add _ _) ?_
          refine g_istore (q := 67) (lc' := [(5, _), (4, _), (3, _), (0, _), (1, _), (2, _)]) hx d_Co_change_65 rfl (by decide) rfl ?_
          try rw [if_neg (by omega : ¬ b1 = 1)] at h
          refine g_iload (q := 69) hx d_Co_change_67 rfl rfl ?_
          refine g_iload_n (q := 70) hx d_Co_change_69 rfl rfl ?_
          refine g_icmp_ge (q := 73) (t := 78) hx d_Co_change_70 rfl rfl (nI_leI (by omega) (by omega)) (fun h70 => ?_) (fun h70 => ?_)
          · obtain ⟨e5, rfl⟩ := Prod.mk.inj (Option.some.inj h)
            rw [if_neg (by omega)] at e5
            subst e5
            refine g_iload (q := 80) hx d_Co_change_78 rfl rfl ?_
            refine g_iconst (q := 81) (v := nI 1) hx d_Co_change_80 rfl (by decide) ?_
            refine g_iadd (q := 82) hx d_Co_change_81 rfl (nI_add _ _) ?_
            exact g_iret hx d_Co_change_82 rfl hQ ⟨Nat.le_refl _, Nat.le_refl _⟩ ⟨_, rfl, rfl, rfl, rfl, by assumption⟩
          · obtain ⟨e5, rfl⟩ := Prod.mk.inj (Option.some.inj h)
            rw [if_pos (by omega)] at e5
            subst e5
            refine g_iload (q := 75) hx d_Co_change_73 rfl rfl ?_
            refine g_goto (q := 82) hx d_Co_change_75 rfl ?_
            exact g_iret hx d_Co_change_82 rfl hQ ⟨Nat.le_refl _, Nat.le_refl _⟩ ⟨_, rfl, rfl, rfl, rfl, by assumption⟩
  · have hch : mChg a b = b := if_pos (by omega)
    refine g_iload_n (q := 6) hx d_Co_change_5 rfl rfl ?_
    refine g_goto (q := 12) hx d_Co_change_6 rfl ?_
    refine g_istore_n (q := 13) (lc' := [(3, _), (0, _), (1, _), (2, _)]) hx d_Co_change_12 rfl (by decide) rfl ?_
    rw [hch] at e1 h
    refine g_bipush (q := 15) (v := nI 47) hx d_Co_change_13 rfl (by decide) ?_
    refine g_iconst (q := 16) (v := nI 2) hx d_Co_change_15 rfl (by decide) ?_
    refine g_iload_n (q := 17) hx d_Co_change_16 rfl rfl ?_
    refine g_imul (q := 18) hx d_Co_change_17 rfl (pk_mul _ _) ?_
    refine g_iadd (q := 19) hx d_Co_change_18 rfl (nI_add _ _) ?_
    refine g_istore (q := 21) (lc' := [(4, _), (3, _), (0, _), (1, _), (2, _)]) hx d_Co_change_19 rfl (by decide) rfl ?_
    refine g_aload_n (q := 22) hx d_Co_change_21 rfl rfl ?_
    refine g_iload (q := 24) hx d_Co_change_22 rfl rfl ?_
    refine g_iload_n (q := 25) hx d_Co_change_24 rfl rfl ?_
    refine g_if_ne (q := 28) (t := 32) hx d_Co_change_25 rfl rfl (zb_ne0 (by omega)) (fun h25 => ?_) (fun h25 => ?_)
    · rw [if_neg (by omega)] at e1
      refine g_iconst (q := 33) (v := nI 1) hx d_Co_change_32 rfl (by decide) ?_
      refine g_ci (q := 36) (zrunU hx d_Co_change_33 hc hl hX rfl rfl (Nat.le_of_ble_eq_true rfl) (by decide) (by omega) (by omega) ((hbit M s (47 + 2 * a) _ b1 s1 _ hI (Or.inl ⟨by omega, rfl⟩) (by omega) e1).2 _)) rfl (fun r33 M1 p33 => ?_)
      obtain ⟨rfl, hI1⟩ := p33
      have gb1 := (hbit M s (47 + 2 * a) _ b1 s1 _ hI (Or.inl ⟨by omega, rfl⟩) (by omega) e1).1
      refine g_istore (q := 38) (lc' := [(5, _), (4, _), (3, _), (0, _), (1, _), (2, _)]) hx d_Co_change_36 rfl (by decide) rfl ?_
      refine g_iload (q := 40) hx d_Co_change_38 rfl rfl ?_
      refine g_iconst (q := 41) (v := nI 1) hx d_Co_change_40 rfl (by decide) ?_
      refine g_icmp_ne (q := 44) (t := 67) hx d_Co_change_41 rfl rfl (not_congr (nI_eq (by omega) (by omega))) (fun h41 => ?_) (fun h41 => ?_)
      · try rw [if_neg (by omega : ¬ b1 = 1)] at h
        refine g_iload (q := 69) hx d_Co_change_67 rfl rfl ?_
        refine g_iload_n (q := 70) hx d_Co_change_69 rfl rfl ?_
        refine g_icmp_ge (q := 73) (t := 78) hx d_Co_change_70 rfl rfl (nI_leI (by omega) (by omega)) (fun h70 => ?_) (fun h70 => ?_)
        · obtain ⟨e5, rfl⟩ := Prod.mk.inj (Option.some.inj h)
          rw [if_neg (by omega)] at e5
          subst e5
          refine g_iload (q := 80) hx d_Co_change_78 rfl rfl ?_
          refine g_iconst (q := 81) (v := nI 1) hx d_Co_change_80 rfl (by decide) ?_
          refine g_iadd (q := 82) hx d_Co_change_81 rfl (nI_add _ _) ?_
          exact g_iret hx d_Co_change_82 rfl hQ ⟨Nat.le_refl _, Nat.le_refl _⟩ ⟨_, rfl, rfl, rfl, rfl, by assumption⟩
        · obtain ⟨e5, rfl⟩ := Prod.mk.inj (Option.some.inj h)
          rw [if_pos (by omega)] at e5
          subst e5
          refine g_iload (q := 75) hx d_Co_change_73 rfl rfl ?_
          refine g_goto (q := 82) hx d_Co_change_75 rfl ?_
          exact g_iret hx d_Co_change_82 rfl hQ ⟨Nat.le_refl _, Nat.le_refl _⟩ ⟨_, rfl, rfl, rfl, rfl, by assumption⟩
      · rw [if_pos (by omega)] at h
        obtain ⟨b2, s2, e2, h⟩ := xB_some.mp h
        obtain rfl : b1 = 1 := (by omega)
        refine g_iload (q := 46) hx d_Co_change_44 rfl rfl ?_
        refine g_aload_n (q := 47) hx d_Co_change_46 rfl rfl ?_
        refine g_iload (q := 49) hx d_Co_change_47 rfl rfl ?_
        refine g_iconst (q := 50) (v := nI 1) hx d_Co_change_49 rfl (by decide) ?_
        refine g_iadd (q := 51) hx d_Co_change_50 rfl (nI_add _ _) ?_
        refine g_iload_n (q := 52) hx d_Co_change_51 rfl rfl ?_
        refine g_iconst (q := 53) (v := nI 1) hx d_Co_change_52 rfl (by decide) ?_
        refine g_icmp_ne (q := 56) (t := 60) hx d_Co_change_53 rfl rfl (not_congr (nI_eq (by omega) (by omega))) (fun h53 => ?_) (fun h53 => ?_)
        · rw [if_neg (by omega)] at e2
          refine g_iconst (q := 61) (v := nI 1) hx d_Co_change_60 rfl (by decide) ?_
          refine g_ci (q := 64) (zrunU hx d_Co_change_61 hc hl hX rfl rfl (Nat.le_of_ble_eq_true rfl) (by decide) (by omega) (by omega) ((hbit M1 s1 (47 + 2 * a + 1) _ b2 s2 _ hI1 (Or.inl ⟨by omega, rfl⟩) (by omega) e2).2 _)) rfl (fun r61 M2 p61 => ?_)
          obtain ⟨rfl, hI2⟩ := p61
          have gb2 := (hbit M1 s1 (47 + 2 * a + 1) _ b2 s2 _ hI1 (Or.inl ⟨by omega, rfl⟩) (by omega) e2).1
          refine g_iadd (q := 65) hx d_Co_change_64 rfl (nI_add _ _) ?_
          refine g_istore (q := 67) (lc' := [(5, _), (4, _), (3, _), (0, _), (1, _), (2, _)]) hx d_Co_change_65 rfl (by decide) rfl ?_
          try rw [if_neg (by omega : ¬ b1 = 1)] at h
          refine g_iload (q := 69) hx d_Co_change_67 rfl rfl ?_
          refine g_iload_n (q := 70) hx d_Co_change_69 rfl rfl ?_
          refine g_icmp_ge (q := 73) (t := 78) hx d_Co_change_70 rfl rfl (nI_leI (by omega) (by omega)) (fun h70 => ?_) (fun h70 => ?_)
          · obtain ⟨e5, rfl⟩ := Prod.mk.inj (Option.some.inj h)
            rw [if_neg (by omega)] at e5
            subst e5
            refine g_iload (q := 80) hx d_Co_change_78 rfl rfl ?_
            refine g_iconst (q := 81) (v := nI 1) hx d_Co_change_80 rfl (by decide) ?_
            refine g_iadd (q := 82) hx d_Co_change_81 rfl (nI_add _ _) ?_
            exact g_iret hx d_Co_change_82 rfl hQ ⟨Nat.le_refl _, Nat.le_refl _⟩ ⟨_, rfl, rfl, rfl, rfl, by assumption⟩
          · obtain ⟨e5, rfl⟩ := Prod.mk.inj (Option.some.inj h)
            rw [if_pos (by omega)] at e5
            subst e5
            refine g_iload (q := 75) hx d_Co_change_73 rfl rfl ?_
            refine g_goto (q := 82) hx d_Co_change_75 rfl ?_
            exact g_iret hx d_Co_change_82 rfl hQ ⟨Nat.le_refl _, Nat.le_refl _⟩ ⟨_, rfl, rfl, rfl, rfl, by assumption⟩
        · rw [if_pos (by omega)] at e2
          refine g_iconst (q := 57) (v := nI 0) hx d_Co_change_56 rfl (by decide) ?_
          refine g_goto (q := 61) hx d_Co_change_57 rfl ?_
          refine g_ci (q := 64) (zrunU hx d_Co_change_61 hc hl hX rfl rfl (Nat.le_of_ble_eq_true rfl) (by decide) (by omega) (by omega) ((hbit M1 s1 (47 + 2 * a + 1) _ b2 s2 _ hI1 (Or.inl ⟨by omega, rfl⟩) (by omega) e2).2 _)) rfl (fun r61 M2 p61 => ?_)
          obtain ⟨rfl, hI2⟩ := p61
          have gb2 := (hbit M1 s1 (47 + 2 * a + 1) _ b2 s2 _ hI1 (Or.inl ⟨by omega, rfl⟩) (by omega) e2).1
          refine g_iadd (q := 65) hx d_Co_change_64 rfl (nI_add _ _) ?_
          refine g_istore (q := 67) (lc' := [(5, _), (4, _), (3, _), (0, _), (1, _), (2, _)]) hx d_Co_change_65 rfl (by decide) rfl ?_
          try rw [if_neg (by omega : ¬ b1 = 1)] at h
          refine g_iload (q := 69) hx d_Co_change_67 rfl rfl ?_
          refine g_iload_n (q := 70) hx d_Co_change_69 rfl rfl ?_
          refine g_icmp_ge (q := 73) (t := 78) hx d_Co_change_70 rfl rfl (nI_leI (by omega) (by omega)) (fun h70 => ?_) (fun h70 => ?_)
          · obtain ⟨e5, rfl⟩ := Prod.mk.inj (Option.some.inj h)
            rw [if_neg (by omega)] at e5
            subst e5
            refine g_iload (q := 80) hx d_Co_change_78 rfl rfl ?_
            refine g_iconst (q := 81) (v := nI 1) hx d_Co_change_80 rfl (by decide) ?_
            refine g_iadd (q := 82) hx d_Co_change_81 rfl (nI_add _ _) ?_
            exact g_iret hx d_Co_change_82 rfl hQ ⟨Nat.le_refl _, Nat.le_refl _⟩ ⟨_, rfl, rfl, rfl, rfl, by assumption⟩
          · obtain ⟨e5, rfl⟩ := Prod.mk.inj (Option.some.inj h)
            rw [if_pos (by omega)] at e5
            subst e5
            refine g_iload (q := 75) hx d_Co_change_73 rfl rfl ?_
            refine g_goto (q := 82) hx d_Co_change_75 rfl ?_
            exact g_iret hx d_Co_change_82 rfl hQ ⟨Nat.le_refl _, Nat.le_refl _⟩ ⟨_, rfl, rfl, rfl, rfl, by assumption⟩
    · rw [if_pos (by omega)] at e1
      refine g_iconst (q := 29) (v := nI 0) hx d_Co_change_28 rfl (by decide) ?_
      refine g_goto (q := 33) hx d_Co_change_29 rfl ?_
      refine g_ci (q := 36) (zrunU hx d_Co_change_33 hc hl hX rfl rfl (Nat.le_of_ble_eq_true rfl) (by decide) (by omega) (by omega) ((hbit M s (47 + 2 * a) _ b1 s1 _ hI (Or.inl ⟨by omega, rfl⟩) (by omega) e1).2 _)) rfl (fun r33 M1 p33 => ?_)
      obtain ⟨rfl, hI1⟩ := p33
      have gb1 := (hbit M s (47 + 2 * a) _ b1 s1 _ hI (Or.inl ⟨by omega, rfl⟩) (by omega) e1).1
      refine g_istore (q := 38) (lc' := [(5, _), (4, _), (3, _), (0, _), (1, _), (2, _)]) hx d_Co_change_36 rfl (by decide) rfl ?_
      refine g_iload (q := 40) hx d_Co_change_38 rfl rfl ?_
      refine g_iconst (q := 41) (v := nI 1) hx d_Co_change_40 rfl (by decide) ?_
      refine g_icmp_ne (q := 44) (t := 67) hx d_Co_change_41 rfl rfl (not_congr (nI_eq (by omega) (by omega))) (fun h41 => ?_) (fun h41 => ?_)
      · try rw [if_neg (by omega : ¬ b1 = 1)] at h
        refine g_iload (q := 69) hx d_Co_change_67 rfl rfl ?_
        refine g_iload_n (q := 70) hx d_Co_change_69 rfl rfl ?_
        refine g_icmp_ge (q := 73) (t := 78) hx d_Co_change_70 rfl rfl (nI_leI (by omega) (by omega)) (fun h70 => ?_) (fun h70 => ?_)
        · obtain ⟨e5, rfl⟩ := Prod.mk.inj (Option.some.inj h)
          rw [if_neg (by omega)] at e5
          subst e5
          refine g_iload (q := 80) hx d_Co_change_78 rfl rfl ?_
          refine g_iconst (q := 81) (v := nI 1) hx d_Co_change_80 rfl (by decide) ?_
          refine g_iadd (q := 82) hx d_Co_change_81 rfl (nI_add _ _) ?_
          exact g_iret hx d_Co_change_82 rfl hQ ⟨Nat.le_refl _, Nat.le_refl _⟩ ⟨_, rfl, rfl, rfl, rfl, by assumption⟩
        · obtain ⟨e5, rfl⟩ := Prod.mk.inj (Option.some.inj h)
          rw [if_pos (by omega)] at e5
          subst e5
          refine g_iload (q := 75) hx d_Co_change_73 rfl rfl ?_
          refine g_goto (q := 82) hx d_Co_change_75 rfl ?_
          exact g_iret hx d_Co_change_82 rfl hQ ⟨Nat.le_refl _, Nat.le_refl _⟩ ⟨_, rfl, rfl, rfl, rfl, by assumption⟩
      · rw [if_pos (by omega)] at h
        obtain ⟨b2, s2, e2, h⟩ := xB_some.mp h
        obtain rfl : b1 = 1 := (by omega)
        refine g_iload (q := 46) hx d_Co_change_44 rfl rfl ?_
        refine g_aload_n (q := 47) hx d_Co_change_46 rfl rfl ?_
        refine g_iload (q := 49) hx d_Co_change_47 rfl rfl ?_
        refine g_iconst (q := 50) (v := nI 1) hx d_Co_change_49 rfl (by decide) ?_
        refine g_iadd (q := 51) hx d_Co_change_50 rfl (nI_add _ _) ?_
        refine g_iload_n (q := 52) hx d_Co_change_51 rfl rfl ?_
        refine g_iconst (q := 53) (v := nI 1) hx d_Co_change_52 rfl (by decide) ?_
        refine g_icmp_ne (q := 56) (t := 60) hx d_Co_change_53 rfl rfl (not_congr (nI_eq (by omega) (by omega))) (fun h53 => ?_) (fun h53 => ?_)
        · rw [if_neg (by omega)] at e2
          refine g_iconst (q := 61) (v := nI 1) hx d_Co_change_60 rfl (by decide) ?_
          refine g_ci (q := 64) (zrunU hx d_Co_change_61 hc hl hX rfl rfl (Nat.le_of_ble_eq_true rfl) (by decide) (by omega) (by omega) ((hbit M1 s1 (47 + 2 * a + 1) _ b2 s2 _ hI1 (Or.inl ⟨by omega, rfl⟩) (by omega) e2).2 _)) rfl (fun r61 M2 p61 => ?_)
          obtain ⟨rfl, hI2⟩ := p61
          have gb2 := (hbit M1 s1 (47 + 2 * a + 1) _ b2 s2 _ hI1 (Or.inl ⟨by omega, rfl⟩) (by omega) e2).1
          refine g_iadd (q := 65) hx d_Co_change_64 rfl (nI_add _ _) ?_
          refine g_istore (q := 67) (lc' := [(5, _), (4, _), (3, _), (0, _), (1, _), (2, _)]) hx d_Co_change_65 rfl (by decide) rfl ?_
          try rw [if_neg (by omega : ¬ b1 = 1)] at h
          refine g_iload (q := 69) hx d_Co_change_67 rfl rfl ?_
          refine g_iload_n (q := 70) hx d_Co_change_69 rfl rfl ?_
          refine g_icmp_ge (q := 73) (t := 78) hx d_Co_change_70 rfl rfl (nI_leI (by omega) (by omega)) (fun h70 => ?_) (fun h70 => ?_)
          · obtain ⟨e5, rfl⟩ := Prod.mk.inj (Option.some.inj h)
            rw [if_neg (by omega)] at e5
            subst e5
            refine g_iload (q := 80) hx d_Co_change_78 rfl rfl ?_
            refine g_iconst (q := 81) (v := nI 1) hx d_Co_change_80 rfl (by decide) ?_
            refine g_iadd (q := 82) hx d_Co_change_81 rfl (nI_add _ _) ?_
            exact g_iret hx d_Co_change_82 rfl hQ ⟨Nat.le_refl _, Nat.le_refl _⟩ ⟨_, rfl, rfl, rfl, rfl, by assumption⟩
          · obtain ⟨e5, rfl⟩ := Prod.mk.inj (Option.some.inj h)
            rw [if_pos (by omega)] at e5
            subst e5
            refine g_iload (q := 75) hx d_Co_change_73 rfl rfl ?_
            refine g_goto (q := 82) hx d_Co_change_75 rfl ?_
            exact g_iret hx d_Co_change_82 rfl hQ ⟨Nat.le_refl _, Nat.le_refl _⟩ ⟨_, rfl, rfl, rfl, rfl, by assumption⟩
        · rw [if_pos (by omega)] at e2
          refine g_iconst (q := 57) (v := nI 0) hx d_Co_change_56 rfl (by decide) ?_
          refine g_goto (q := 61) hx d_Co_change_57 rfl ?_
          refine g_ci (q := 64) (zrunU hx d_Co_change_61 hc hl hX rfl rfl (Nat.le_of_ble_eq_true rfl) (by decide) (by omega) (by omega) ((hbit M1 s1 (47 + 2 * a + 1) _ b2 s2 _ hI1 (Or.inl ⟨by omega, rfl⟩) (by omega) e2).2 _)) rfl (fun r61 M2 p61 => ?_)
          obtain ⟨rfl, hI2⟩ := p61
          have gb2 := (hbit M1 s1 (47 + 2 * a + 1) _ b2 s2 _ hI1 (Or.inl ⟨by omega, rfl⟩) (by omega) e2).1
          refine g_iadd (q := 65) hx d_Co_change_64 rfl (nI_add _ _) ?_
          refine g_istore (q := 67) (lc' := [(5, _), (4, _), (3, _), (0, _), (1, _), (2, _)]) hx d_Co_change_65 rfl (by decide) rfl ?_
          try rw [if_neg (by omega : ¬ b1 = 1)] at h
          refine g_iload (q := 69) hx d_Co_change_67 rfl rfl ?_
          refine g_iload_n (q := 70) hx d_Co_change_69 rfl rfl ?_
          refine g_icmp_ge (q := 73) (t := 78) hx d_Co_change_70 rfl rfl (nI_leI (by omega) (by omega)) (fun h70 => ?_) (fun h70 => ?_)
          · obtain ⟨e5, rfl⟩ := Prod.mk.inj (Option.some.inj h)
            rw [if_neg (by omega)] at e5
            subst e5
            refine g_iload (q := 80) hx d_Co_change_78 rfl rfl ?_
            refine g_iconst (q := 81) (v := nI 1) hx d_Co_change_80 rfl (by decide) ?_
            refine g_iadd (q := 82) hx d_Co_change_81 rfl (nI_add _ _) ?_
            exact g_iret hx d_Co_change_82 rfl hQ ⟨Nat.le_refl _, Nat.le_refl _⟩ ⟨_, rfl, rfl, rfl, rfl, by assumption⟩
          · obtain ⟨e5, rfl⟩ := Prod.mk.inj (Option.some.inj h)
            rw [if_pos (by omega)] at e5
            subst e5
            refine g_iload (q := 75) hx d_Co_change_73 rfl rfl ?_
            refine g_goto (q := 82) hx d_Co_change_75 rfl ?_
            exact g_iret hx d_Co_change_82 rfl hQ ⟨Nat.le_refl _, Nat.le_refl _⟩ ⟨_, rfl, rfl, rfl, rfl, by assumption⟩
set_option maxHeartbeats 4000000 in
set_option maxRecDepth 100000 in
/-- insert(b) -/
theorem c_Co_insert (l : Launch) (E : zE) (Γ : zG) (n : Nat) (M : zM) (X c : Nat) (r : vw_C) {σ : Type} (R : σ → Nat → Nat → Option (Nat × σ)) (I : zM → σ → Prop) (hbit : zBit E Γ n X R I) (hc : zCl[c]? = some r) (hl : zLb r) (hX : Γ X = some (0, c)) (s : σ) (hI : I M s) (b w : Nat) (t : σ) (hb : b < 4) (h : xI R b s = some (w, t)) :
    zCt l E Y_Co_insert 2 (0, 0) [.ref X, .int (nI b)] Γ n M (zPi Γ n (fun v M' => v = nI w ∧ I M' t)) := by
  refine zCt.of [(0, .ref X), (1, .int (nI b))] (by decide) (Nat.le_of_ble_eq_true rfl) rfl (fun f hfl hx hQ => ?_)
  unfold xI at h
  obtain ⟨b1, s1, e1, h⟩ := xB_some.mp h
  obtain ⟨b2, s2, e2, h⟩ := xB_some.mp h
  obtain ⟨rfl, rfl⟩ := Prod.mk.inj (Option.some.inj h)
  refine g_aload_n (q := 1) hx d_Co_insert_0 rfl rfl ?_
  refine g_bipush (q := 3) (v := nI 55) hx d_Co_insert_1 rfl (by decide) ?_
  refine g_iload_n (q := 4) hx d_Co_insert_3 rfl rfl ?_
  refine g_iconst (q := 5) (v := nI 2) hx d_Co_insert_4 rfl (by decide) ?_
  refine g_idiv (q := 6) hx d_Co_insert_5 rfl (nI_ne0 (by omega) (by omega)) (pk_div (by omega) (by omega) (by omega)) ?_
  refine g_ci (q := 9) (zrunU hx d_Co_insert_6 hc hl hX rfl rfl (Nat.le_of_ble_eq_true rfl) (by decide) (by omega) (by omega) ((hbit M s (55) _ b1 s1 _ hI (Or.inl ⟨by omega, rfl⟩) (by omega) e1).2 _)) rfl (fun r6 M1 p6 => ?_)
  obtain ⟨rfl, hI1⟩ := p6
  have gb1 := (hbit M s (55) _ b1 s1 _ hI (Or.inl ⟨by omega, rfl⟩) (by omega) e1).1
  refine g_istore_n (q := 10) (lc' := [(2, _), (0, _), (1, _)]) hx d_Co_insert_9 rfl (by decide) rfl ?_
  refine g_iconst (q := 11) (v := nI 2) hx d_Co_insert_10 rfl (by decide) ?_
  refine g_iload_n (q := 12) hx d_Co_insert_11 rfl rfl ?_
  refine g_imul (q := 13) hx d_Co_insert_12 rfl (pk_mul _ _) ?_
  refine g_aload_n (q := 14) hx d_Co_insert_13 rfl rfl ?_
  refine g_bipush (q := 16) (v := nI 56) hx d_Co_insert_14 rfl (by decide) ?_
  refine g_iload_n (q := 17) hx d_Co_insert_16 rfl rfl ?_
  refine g_iadd (q := 18) hx d_Co_insert_17 rfl (nI_add _ _) ?_
  refine g_iload_n (q := 19) hx d_Co_insert_18 rfl rfl ?_
  refine g_iconst (q := 20) (v := nI 2) hx d_Co_insert_19 rfl (by decide) ?_
  refine g_irem (q := 21) hx d_Co_insert_20 rfl (nI_ne0 (by omega) (by omega)) (pk_rem (by omega) (by omega) (by omega)) ?_
  refine g_ci (q := 24) (zrunU hx d_Co_insert_21 hc hl hX rfl rfl (Nat.le_of_ble_eq_true rfl) (by decide) (by omega) (by omega) ((hbit M1 s1 (56 + b1) _ b2 s2 _ hI1 (Or.inl ⟨by omega, rfl⟩) (by omega) e2).2 _)) rfl (fun r21 M2 p21 => ?_)
  obtain ⟨rfl, hI2⟩ := p21
  have gb2 := (hbit M1 s1 (56 + b1) _ b2 s2 _ hI1 (Or.inl ⟨by omega, rfl⟩) (by omega) e2).1
  refine g_iadd (q := 25) hx d_Co_insert_24 rfl (nI_add _ _) ?_
  exact g_iret hx d_Co_insert_25 rfl hQ ⟨Nat.le_refl _, Nat.le_refl _⟩ ⟨_, rfl, rfl, rfl, rfl, hI2⟩
/-- the calls of a coder of class r -/
abbrev zLb4 (r : vw_C) : Prop := zLu "SlicedReads$Coder" 44 r.1 "SlicedReads$Coder" ⟨"SlicedReads$Coder", "number", "(II)I"⟩ Y_Co_number 2 ∧ zLu "SlicedReads$Coder" 52 r.1 "SlicedReads$Coder" ⟨"SlicedReads$Coder", "change", "(II)I"⟩ Y_Co_change 2 ∧ zLu "SlicedReads$Coder" 55 r.1 "SlicedReads$Coder" ⟨"SlicedReads$Coder", "insert", "(I)I"⟩ Y_Co_insert 1
set_option maxHeartbeats 4000000 in
set_option maxRecDepth 100000 in
/-- editNumber(reference, place, kind, number) -/
theorem c_Co_editNumber (l : Launch) (E : zE) (Γ : zG) (n : Nat) (M : zM) (X c : Nat) (r : vw_C) {σ : Type} (R : σ → Nat → Nat → Option (Nat × σ)) (I : zM → σ → Prop) (hbit : zBit E Γ n X R I) (hc : zCl[c]? = some r) (hl : zLb r) (hX : Γ X = some (0, c)) (s : σ) (hI : I M s) (hl4 : zLb4 r) (rr len : Nat) (ref : Nat → Nat) (hrs : pRs Γ M.2.2 rr) (hrf : pRf M rr len ref) (at_ k m w : Nat) (t : σ) (hk : k < 4) (hm : 1 ≤ m ∧ m ≤ 160 ∨ k = 1 ∧ m < 4 ∧ m < ref at_ ∨ k = 2 ∧ m < 4) (hm4 : k = 1 ∨ k = 2 → m < 4) (hat : k = 1 → at_ < len) (h : xE R ref at_ k m s = some (w, t)) :
    zCt l E Y_Co_editNumber 3 (0, 0) [.ref X, .ref rr, .int (nI at_), .int (nI k), .int (nI m)] Γ n M (zPi Γ n (fun v M' => v = nI w ∧ I M' t)) := by
  refine zCt.of [(0, .ref X), (1, .ref rr), (2, .int (nI at_)), (3, .int (nI k)), (4, .int (nI m))] (by decide) (Nat.le_of_ble_eq_true rfl) rfl (fun f hfl hx hQ => ?_)
  obtain ⟨hl2, hl3, hl4⟩ := hl4
  obtain ⟨hr1, hr2, hr3, hr0⟩ := hrs
  have hr3 : zr M rr 0 = rr + 1 := hr3
  obtain ⟨hrl, hrb, hr160, hr4⟩ := hrf
  refine g_iload_n (q := 1) hx d_Co_editNumber_0 rfl rfl ?_
  obtain rfl | rfl | rfl | rfl : k = 0 ∨ k = 1 ∨ k = 2 ∨ k = 3 := (by omega)
  · refine g_tabIn (t := 32) hx d_Co_editNumber_1 (by decide) (by decide) rfl rfl ?_
    simp only [xE, if_true, if_false, Nat.reduceEqDiff] at h
    obtain ⟨w1, t1, e1, h⟩ := xB_some.mp h
    obtain ⟨rfl, rfl⟩ := Prod.mk.inj (Option.some.inj h)
    refine g_aload_n (q := 33) hx d_Co_editNumber_32 rfl rfl ?_
    refine g_bipush (q := 35) (v := nI 9) hx d_Co_editNumber_33 rfl (by decide) ?_
    refine g_iload (q := 37) hx d_Co_editNumber_35 rfl rfl ?_
    refine g_iconst (q := 38) (v := nI 1) hx d_Co_editNumber_37 rfl (by decide) ?_
    refine g_isub (q := 39) hx d_Co_editNumber_38 rfl (pk_sub (by omega)) ?_
    refine g_ci (q := 42) (zrunU hx d_Co_editNumber_39 hc hl2 hX rfl rfl (Nat.le_of_ble_eq_true rfl) (by decide) (by omega) (by omega) (c_Co_number _ E Γ n _ X c r R I hbit hc hl hX s hI 9 (m - 1) w1 t1 (by omega) (by omega) e1)) rfl (fun r39 M39 p39 => ?_)
    obtain ⟨rfl, hI1⟩ := p39
    refine g_iconst (q := 43) (v := nI 1) hx d_Co_editNumber_42 rfl (by decide) ?_
    refine g_iadd (q := 44) hx d_Co_editNumber_43 rfl (nI_add _ _) ?_
    exact g_iret hx d_Co_editNumber_44 rfl hQ ⟨Nat.le_refl _, Nat.le_refl _⟩ ⟨_, rfl, rfl, rfl, rfl, hI1⟩
  · refine g_tabIn (t := 58) hx d_Co_editNumber_1 (by decide) (by decide) rfl rfl ?_
    simp only [xE, if_true, if_false, Nat.reduceEqDiff] at h
    have hat := hat rfl
    refine g_aload_n (q := 59) hx d_Co_editNumber_58 rfl rfl ?_
    refine g_aload_n (q := 60) hx d_Co_editNumber_59 rfl rfl ?_
    refine g_geta (q := 63) hx d_Co_editNumber_60 rfl fl_Co_47 (by assumption) (by assumption) (by omega) ?_
    refine g_iload_n (q := 64) hx d_Co_editNumber_63 rfl rfl ?_
    refine g_iald (q := 65) hx d_Co_editNumber_64 rfl (by assumption) rfl (by omega) (by decide) (hrb _ (by omega)) ?_
    refine g_iload (q := 67) hx d_Co_editNumber_65 rfl rfl ?_
    refine g_ci (q := 70) (zrunU hx d_Co_editNumber_67 hc hl3 hX rfl rfl (Nat.le_of_ble_eq_true rfl) (by decide) (by omega) (by omega) (c_Co_change _ E Γ n _ X c r R I hbit hc hl hX s hI (ref at_) m w t (hr4 _) (by omega) (by omega) h)) rfl (fun r67 M67 p67 => ?_)
    obtain ⟨rfl, hI1⟩ := p67
    exact g_iret hx d_Co_editNumber_70 rfl hQ ⟨Nat.le_refl _, Nat.le_refl _⟩ ⟨_, rfl, rfl, rfl, rfl, hI1⟩
  · refine g_tabIn (t := 71) hx d_Co_editNumber_1 (by decide) (by decide) rfl rfl ?_
    simp only [xE, if_true, if_false, Nat.reduceEqDiff] at h
    refine g_aload_n (q := 72) hx d_Co_editNumber_71 rfl rfl ?_
    refine g_iload (q := 74) hx d_Co_editNumber_72 rfl rfl ?_
    refine g_ci (q := 77) (zrunU hx d_Co_editNumber_74 hc hl4 hX rfl rfl (Nat.le_of_ble_eq_true rfl) (by decide) (by omega) (by omega) (c_Co_insert _ E Γ n _ X c r R I hbit hc hl hX s hI m w t (by omega) h)) rfl (fun r74 M74 p74 => ?_)
    obtain ⟨rfl, hI1⟩ := p74
    exact g_iret hx d_Co_editNumber_77 rfl hQ ⟨Nat.le_refl _, Nat.le_refl _⟩ ⟨_, rfl, rfl, rfl, rfl, hI1⟩
  · refine g_tabIn (t := 45) hx d_Co_editNumber_1 (by decide) (by decide) rfl rfl ?_
    simp only [xE, if_true, if_false, Nat.reduceEqDiff] at h
    obtain ⟨w1, t1, e1, h⟩ := xB_some.mp h
    obtain ⟨rfl, rfl⟩ := Prod.mk.inj (Option.some.inj h)
    refine g_aload_n (q := 46) hx d_Co_editNumber_45 rfl rfl ?_
    refine g_bipush (q := 48) (v := nI 18) hx d_Co_editNumber_46 rfl (by decide) ?_
    refine g_iload (q := 50) hx d_Co_editNumber_48 rfl rfl ?_
    refine g_iconst (q := 51) (v := nI 1) hx d_Co_editNumber_50 rfl (by decide) ?_
    refine g_isub (q := 52) hx d_Co_editNumber_51 rfl (pk_sub (by omega)) ?_
    refine g_ci (q := 55) (zrunU hx d_Co_editNumber_52 hc hl2 hX rfl rfl (Nat.le_of_ble_eq_true rfl) (by decide) (by omega) (by omega) (c_Co_number _ E Γ n _ X c r R I hbit hc hl hX s hI 18 (m - 1) w1 t1 (by omega) (by omega) e1)) rfl (fun r52 M52 p52 => ?_)
    obtain ⟨rfl, hI1⟩ := p52
    refine g_iconst (q := 56) (v := nI 1) hx d_Co_editNumber_55 rfl (by decide) ?_
    refine g_iadd (q := 57) hx d_Co_editNumber_56 rfl (nI_add _ _) ?_
    exact g_iret hx d_Co_editNumber_57 rfl hQ ⟨Nat.le_refl _, Nat.le_refl _⟩ ⟨_, rfl, rfl, rfl, rfl, hI1⟩
