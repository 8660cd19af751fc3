set_option maxHeartbeats 4000000 in
set_option maxRecDepth 100000 in
/-- fits(reference, kind, number) -/
theorem c_Rd_fits (l : Launch) (E : zE) (Γ : zG) (n : Nat) (M : zM) (a r len : Nat) (ref : Nat → Nat) (rd : mRd) (x y : Int32) (hs : pSh Γ M.2.2 a) (hrs : pRs Γ M.2.2 r) (hd : pRd M a rd) (hf : pRf M r len ref) (hp : rd.1 + mPs rd.2 ≤ len) :
    zCt l E Y_Rd_fits 1 (0, 0) [.ref a, .ref r, .int x, .int y] Γ n M (zPi Γ n (fun v M' => M' = M ∧ (v = nI 1 ∧ zFit ref len (rd.1 + mPs rd.2) x y ∨ v = nI 0 ∧ ¬ zFit ref len (rd.1 + mPs rd.2) x y))) := by
  refine zCt.of [(0, .ref a), (1, .ref r), (2, .int x), (3, .int y)] (by decide) (Nat.le_of_ble_eq_true rfl) rfl (fun f hfl hx hQ => ?_)
  obtain ⟨⟨ha, ha1, ha2, ha3⟩, p0, p1, p2, ha0⟩ := hs
  have p0 : zr M a 0 = a + 1 := p0
  have p1 : zr M a 1 = a + 2 := p1
  have p2 : zr M a 2 = a + 3 := p2
  obtain ⟨hr, hrb, pr, hr0⟩ := hrs
  have pr : zr M r 0 = r + 1 := pr
  obtain ⟨q1, q2, q3, q4, q5⟩ := hd
  have hf1 := hf.1
  have hl := hf.2.2.1
  have hb4 := hf.2.2.2 (rd.1 + mPs rd.2)
  refine g_iload_n (q := 1) hx d_Rd_fits_0 rfl rfl ?_
  have out : (x.toInt < 0 ∨ 3 < x.toInt) → zGo f E Γ n (0, 0) M 1 [(0, .ref a), (1, .ref r), (2, .int x), (3, .int y)] [.int x] := by
    intro h4
    refine g_tabOut (t := 98) hx d_Rd_fits_1 h4 rfl ?_
    refine g_iconst (q := 99) (v := nI 0) hx d_Rd_fits_98 rfl (by decide) ?_
    exact g_zret hx d_Rd_fits_99 rfl (by decide) hQ ⟨Nat.le_refl _, Nat.le_refl _⟩ ⟨_, rfl, rfl, rfl, rfl, Or.inr ⟨rfl, fun ⟨k, m9, hm9, hk, hk4, hy, hfit⟩ => z4n h4 hk4 hk⟩⟩
  rcases z4 (x := x) with h | h | ⟨j, hj, rfl⟩
  · exact out (Or.inl h)
  · exact out (Or.inr h)
  · have hj4 : j = 0 ∨ j = 1 ∨ j = 2 ∨ j = 3 := by omega
    rcases hj4 with rfl | rfl | rfl | rfl
    · refine g_tabIn (off := 31) (t := 32) hx d_Rd_fits_1 (by decide) (by decide) (by decide) rfl ?_
      refine g_iload_n (q := 33) hx d_Rd_fits_32 rfl rfl ?_
      refine g_iconst (q := 34) (v := nI 1) hx d_Rd_fits_33 rfl (by decide) ?_
      refine g_icmp_lt (q := 37) (t := 54) hx d_Rd_fits_34 rfl rfl Iff.rfl (fun h34 => ?_) (fun h34 => ?_)
      · refine g_iconst (q := 55) (v := nI 0) hx d_Rd_fits_54 rfl (by decide) ?_
        exact g_zret hx d_Rd_fits_55 rfl (by decide) hQ ⟨Nat.le_refl _, Nat.le_refl _⟩ ⟨_, rfl, rfl, rfl, rfl, Or.inr ⟨rfl, fun ⟨k, m9, hm9, hk, hk4, hy, hfit⟩ => by rw [hy] at h34; have h9 := (nI_ltI hm9 (by omega)).mp h34; have hk0 := (nI_eq (by omega) (by omega)).mp hk; unfold mFit at hfit; dsimp only at hfit; omega⟩⟩
      · obtain ⟨m, hm, rfl⟩ := nI_of (fun h => h34 (Int32.lt_trans h (by decide)))
        have h35 : 1 ≤ m := by
          have := mt (nI_ltI hm (by omega)).mpr h34
          omega
        refine g_iload_n (q := 38) hx d_Rd_fits_37 rfl rfl ?_
        refine g_aload_n (q := 39) hx d_Rd_fits_38 rfl rfl ?_
        refine g_geti (q := 42) hx d_Rd_fits_39 rfl fl_Rd_34 (by assumption) (by assumption) ?_
        refine g_aload_n (q := 43) hx d_Rd_fits_42 rfl rfl ?_
        refine g_ci (q := 46) (zrunV hx d_Rd_fits_43 lk_Rd_39 rfl rfl (by assumption) rfl rfl (Nat.le_of_ble_eq_true rfl) (by decide) (by omega) (by omega) (c_Rd_placeN _ E Γ n _ a rd.1 (mPs rd.2) ha q1 q4)) rfl (fun r43 M43 p43 => ?_)
        obtain ⟨rfl, rfl⟩ := p43
        refine g_isub (q := 47) hx d_Rd_fits_46 rfl (pk_sub (by omega)) ?_
        refine g_icmp_gt (q := 50) (t := 54) hx d_Rd_fits_47 rfl rfl (nI_ltI (by omega) (by omega)) (fun h47 => ?_) (fun h47 => ?_)
        · refine g_iconst (q := 55) (v := nI 0) hx d_Rd_fits_54 rfl (by decide) ?_
          exact g_zret hx d_Rd_fits_55 rfl (by decide) hQ ⟨Nat.le_refl _, Nat.le_refl _⟩ ⟨_, rfl, rfl, rfl, rfl, Or.inr ⟨rfl, fun ⟨k, m9, hm9, hk, hk4, hy, hfit⟩ => by have h9 := (nI_eq hm hm9).mp hy; have hk0 := (nI_eq (by omega) (by omega)).mp hk; unfold mFit at hfit; dsimp only at hfit; omega⟩⟩
        · refine g_iconst (q := 51) (v := nI 1) hx d_Rd_fits_50 rfl (by decide) ?_
          refine g_goto (q := 55) hx d_Rd_fits_51 rfl ?_
          exact g_zret hx d_Rd_fits_55 rfl (by decide) hQ ⟨Nat.le_refl _, Nat.le_refl _⟩ ⟨_, rfl, rfl, rfl, rfl, Or.inl ⟨rfl, _, m, hm, rfl, by omega, rfl, Or.inl ⟨by simp, h35, by show _ + _ + m ≤ len; omega⟩⟩⟩
    · refine g_tabIn (off := 55) (t := 56) hx d_Rd_fits_1 (by decide) (by decide) (by decide) rfl ?_
      refine g_iload_n (q := 57) hx d_Rd_fits_56 rfl rfl ?_
      refine g_ci (q := 60) (zrunS hx d_Rd_fits_57 lk_Rd_43 rfl rfl (Nat.le_of_ble_eq_true rfl) (by decide) (by omega) (by omega) (c_Rd_isBase _ E Γ n _ y)) rfl (fun r57 M57 p57 => ?_)
      obtain ⟨rfl, p57⟩ := p57
      rcases p57 with ⟨rfl, m, hm, rfl⟩ | ⟨rfl, hn⟩
      · refine g_if_eq (q := 63) (t := 91) hx d_Rd_fits_60 rfl rfl (zb_eq0 (by omega)) (fun h60 => ?_) (fun h60 => ?_)
        · exact absurd h60 (by omega)
        · refine g_aload_n (q := 64) hx d_Rd_fits_63 rfl rfl ?_
          refine g_ci (q := 67) (zrunV hx d_Rd_fits_64 lk_Rd_39 rfl rfl (by assumption) rfl rfl (Nat.le_of_ble_eq_true rfl) (by decide) (by omega) (by omega) (c_Rd_placeN _ E Γ n _ a rd.1 (mPs rd.2) ha q1 q4)) rfl (fun r64 M64 p64 => ?_)
          obtain ⟨rfl, rfl⟩ := p64
          refine g_aload_n (q := 68) hx d_Rd_fits_67 rfl rfl ?_
          refine g_geti (q := 71) hx d_Rd_fits_68 rfl fl_Rd_34 (by assumption) (by assumption) ?_
          refine g_icmp_ge (q := 74) (t := 91) hx d_Rd_fits_71 rfl rfl (nI_leI (by omega) (by omega)) (fun h71 => ?_) (fun h71 => ?_)
          · refine g_iconst (q := 92) (v := nI 0) hx d_Rd_fits_91 rfl (by decide) ?_
            exact g_zret hx d_Rd_fits_92 rfl (by decide) hQ ⟨Nat.le_refl _, Nat.le_refl _⟩ ⟨_, rfl, rfl, rfl, rfl, by first | exact Or.inl ⟨rfl, _, m, by omega, rfl, by omega, rfl, Or.inr (Or.inl ⟨rfl, hm, by omega, h84⟩)⟩ | exact Or.inr ⟨rfl, hneg⟩ | exact Or.inr ⟨rfl, fun ⟨k, m9, hm9, hk, hk4, hy, hfit⟩ => by have h9 := (nI_eq (by omega) hm9).mp hy; subst h9; have hk0 := (nI_eq (by omega) (by omega)).mp hk; unfold mFit at hfit; dsimp only at hfit; omega⟩⟩
          · refine g_aload_n (q := 75) hx d_Rd_fits_74 rfl rfl ?_
            refine g_geta (q := 78) hx d_Rd_fits_75 rfl fl_Rd_47 (by assumption) (by assumption) (by omega) ?_
            refine g_aload_n (q := 79) hx d_Rd_fits_78 rfl rfl ?_
            refine g_ci (q := 82) (zrunV hx d_Rd_fits_79 lk_Rd_39 rfl rfl (by assumption) rfl rfl (Nat.le_of_ble_eq_true rfl) (by decide) (by omega) (by omega) (c_Rd_placeN _ E Γ n _ a rd.1 (mPs rd.2) ha q1 q4)) rfl (fun r79 M79 p79 => ?_)
            obtain ⟨rfl, rfl⟩ := p79
            refine g_iald (q := 83) hx d_Rd_fits_82 rfl (by assumption) rfl (by omega) (by decide) (hf.2.1 _ (by omega)) ?_
            refine g_iload_n (q := 84) hx d_Rd_fits_83 rfl rfl ?_
            refine g_icmp_eq (q := 87) (t := 91) hx d_Rd_fits_84 rfl rfl (nI_eq (by omega) (by omega)) (fun h84 => ?_) (fun h84 => ?_)
            · refine g_iconst (q := 92) (v := nI 0) hx d_Rd_fits_91 rfl (by decide) ?_
              exact g_zret hx d_Rd_fits_92 rfl (by decide) hQ ⟨Nat.le_refl _, Nat.le_refl _⟩ ⟨_, rfl, rfl, rfl, rfl, by first | exact Or.inl ⟨rfl, _, m, by omega, rfl, by omega, rfl, Or.inr (Or.inl ⟨rfl, hm, by omega, h84⟩)⟩ | exact Or.inr ⟨rfl, hneg⟩ | exact Or.inr ⟨rfl, fun ⟨k, m9, hm9, hk, hk4, hy, hfit⟩ => by have h9 := (nI_eq (by omega) hm9).mp hy; subst h9; have hk0 := (nI_eq (by omega) (by omega)).mp hk; unfold mFit at hfit; dsimp only at hfit; omega⟩⟩
            · refine g_iconst (q := 88) (v := nI 1) hx d_Rd_fits_87 rfl (by decide) ?_
              refine g_goto (q := 92) hx d_Rd_fits_88 rfl ?_
              exact g_zret hx d_Rd_fits_92 rfl (by decide) hQ ⟨Nat.le_refl _, Nat.le_refl _⟩ ⟨_, rfl, rfl, rfl, rfl, by first | exact Or.inl ⟨rfl, _, m, by omega, rfl, by omega, rfl, Or.inr (Or.inl ⟨rfl, hm, by omega, h84⟩)⟩ | exact Or.inr ⟨rfl, hneg⟩ | exact Or.inr ⟨rfl, fun ⟨k, m9, hm9, hk, hk4, hy, hfit⟩ => by have h9 := (nI_eq (by omega) hm9).mp hy; subst h9; have hk0 := (nI_eq (by omega) (by omega)).mp hk; unfold mFit at hfit; dsimp only at hfit; omega⟩⟩
      · have hneg : ¬ zFit ref len (rd.1 + mPs rd.2) (nI 1) y := fun ⟨k, m9, hm9, hk, hk4, hy, hfit⟩ => by have hk0 := (nI_eq (by omega) (by omega)).mp hk; unfold mFit at hfit; dsimp only at hfit; exact hn ⟨m9, by omega, hy⟩
        refine g_if_eq (q := 63) (t := 91) hx d_Rd_fits_60 rfl rfl (zb_eq0 (by omega)) (fun h60 => ?_) (fun h60 => ?_)
        · refine g_iconst (q := 92) (v := nI 0) hx d_Rd_fits_91 rfl (by decide) ?_
          exact g_zret hx d_Rd_fits_92 rfl (by decide) hQ ⟨Nat.le_refl _, Nat.le_refl _⟩ ⟨_, rfl, rfl, rfl, rfl, by first | exact Or.inl ⟨rfl, _, m, by omega, rfl, by omega, rfl, Or.inr (Or.inl ⟨rfl, hm, by omega, h84⟩)⟩ | exact Or.inr ⟨rfl, hneg⟩ | exact Or.inr ⟨rfl, fun ⟨k, m9, hm9, hk, hk4, hy, hfit⟩ => by have h9 := (nI_eq (by omega) hm9).mp hy; subst h9; have hk0 := (nI_eq (by omega) (by omega)).mp hk; unfold mFit at hfit; dsimp only at hfit; omega⟩⟩
        · exact absurd h60 (by omega)
    · refine g_tabIn (off := 92) (t := 93) hx d_Rd_fits_1 (by decide) (by decide) (by decide) rfl ?_
      refine g_iload_n (q := 94) hx d_Rd_fits_93 rfl rfl ?_
      refine g_ci (q := 97) (zrunS hx d_Rd_fits_94 lk_Rd_43 rfl rfl (Nat.le_of_ble_eq_true rfl) (by decide) (by omega) (by omega) (c_Rd_isBase _ E Γ n _ y)) rfl (fun r94 M94 p94 => ?_)
      obtain ⟨rfl, p94⟩ := p94
      rcases p94 with ⟨rfl, m, hm, rfl⟩ | ⟨rfl, hn⟩
      · exact g_zret hx d_Rd_fits_97 rfl (by decide) hQ ⟨Nat.le_refl _, Nat.le_refl _⟩ ⟨_, rfl, rfl, rfl, rfl, Or.inl ⟨rfl, _, m, by omega, rfl, by omega, rfl, Or.inr (Or.inr ⟨rfl, hm⟩)⟩⟩
      · exact g_zret hx d_Rd_fits_97 rfl (by decide) hQ ⟨Nat.le_refl _, Nat.le_refl _⟩ ⟨_, rfl, rfl, rfl, rfl, Or.inr ⟨rfl, fun ⟨k, m9, hm9, hk, hk4, hy, hfit⟩ => by have hk0 := (nI_eq (by omega) (by omega)).mp hk; unfold mFit at hfit; dsimp only at hfit; exact hn ⟨m9, by omega, hy⟩⟩⟩
    · refine g_tabIn (off := 31) (t := 32) hx d_Rd_fits_1 (by decide) (by decide) (by decide) rfl ?_
      refine g_iload_n (q := 33) hx d_Rd_fits_32 rfl rfl ?_
      refine g_iconst (q := 34) (v := nI 1) hx d_Rd_fits_33 rfl (by decide) ?_
      refine g_icmp_lt (q := 37) (t := 54) hx d_Rd_fits_34 rfl rfl Iff.rfl (fun h34 => ?_) (fun h34 => ?_)
      · refine g_iconst (q := 55) (v := nI 0) hx d_Rd_fits_54 rfl (by decide) ?_
        exact g_zret hx d_Rd_fits_55 rfl (by decide) hQ ⟨Nat.le_refl _, Nat.le_refl _⟩ ⟨_, rfl, rfl, rfl, rfl, Or.inr ⟨rfl, fun ⟨k, m9, hm9, hk, hk4, hy, hfit⟩ => by rw [hy] at h34; have h9 := (nI_ltI hm9 (by omega)).mp h34; have hk0 := (nI_eq (by omega) (by omega)).mp hk; unfold mFit at hfit; dsimp only at hfit; omega⟩⟩
      · obtain ⟨m, hm, rfl⟩ := nI_of (fun h => h34 (Int32.lt_trans h (by decide)))
        have h35 : 1 ≤ m := by
          have := mt (nI_ltI hm (by omega)).mpr h34
          omega
        refine g_iload_n (q := 38) hx d_Rd_fits_37 rfl rfl ?_
        refine g_aload_n (q := 39) hx d_Rd_fits_38 rfl rfl ?_
        refine g_geti (q := 42) hx d_Rd_fits_39 rfl fl_Rd_34 (by assumption) (by assumption) ?_
        refine g_aload_n (q := 43) hx d_Rd_fits_42 rfl rfl ?_
        refine g_ci (q := 46) (zrunV hx d_Rd_fits_43 lk_Rd_39 rfl rfl (by assumption) rfl rfl (Nat.le_of_ble_eq_true rfl) (by decide) (by omega) (by omega) (c_Rd_placeN _ E Γ n _ a rd.1 (mPs rd.2) ha q1 q4)) rfl (fun r43 M43 p43 => ?_)
        obtain ⟨rfl, rfl⟩ := p43
        refine g_isub (q := 47) hx d_Rd_fits_46 rfl (pk_sub (by omega)) ?_
        refine g_icmp_gt (q := 50) (t := 54) hx d_Rd_fits_47 rfl rfl (nI_ltI (by omega) (by omega)) (fun h47 => ?_) (fun h47 => ?_)
        · refine g_iconst (q := 55) (v := nI 0) hx d_Rd_fits_54 rfl (by decide) ?_
          exact g_zret hx d_Rd_fits_55 rfl (by decide) hQ ⟨Nat.le_refl _, Nat.le_refl _⟩ ⟨_, rfl, rfl, rfl, rfl, Or.inr ⟨rfl, fun ⟨k, m9, hm9, hk, hk4, hy, hfit⟩ => by have h9 := (nI_eq hm hm9).mp hy; have hk0 := (nI_eq (by omega) (by omega)).mp hk; unfold mFit at hfit; dsimp only at hfit; omega⟩⟩
        · refine g_iconst (q := 51) (v := nI 1) hx d_Rd_fits_50 rfl (by decide) ?_
          refine g_goto (q := 55) hx d_Rd_fits_51 rfl ?_
          exact g_zret hx d_Rd_fits_55 rfl (by decide) hQ ⟨Nat.le_refl _, Nat.le_refl _⟩ ⟨_, rfl, rfl, rfl, rfl, Or.inl ⟨rfl, _, m, hm, rfl, by omega, rfl, Or.inl ⟨by simp, h35, by show _ + _ + m ≤ len; omega⟩⟩⟩
