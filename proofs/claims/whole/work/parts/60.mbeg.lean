set_option maxHeartbeats 4000000 in
set_option maxRecDepth 100000 in
theorem c_Mo_noRead (l : Launch) (E : zE) (Γ : zG) (n : Nat) (M : zM) (m : Nat) (len c g k size : Nat) (ref arch : Nat → Nat) (fs hs : Nat → mRd) (ur : mRd) (hq : qX Γ M.2.2 m) (hI : qI M m len c g k size ref arch fs hs ur) (y z : Int32) : zCt l E Y_Mo_noRead 0 (0, 0) [.ref m, .int y, .int z] Γ n M (zPi Γ n (fun v M' => M' = M ∧ (v = nI 1 ∧ (¬ ∃ u : Nat, u < (if z = 0 then c else k) ∧ y = nI u) ∨ v = nI 0 ∧ ∃ u : Nat, u < (if z = 0 then c else k) ∧ y = nI u))) := by
  refine zCt.of [(0, .ref m), (1, .int y), (2, .int z)] (by decide) (Nat.le_of_ble_eq_true rfl) rfl (fun f hfl hx hQ => ?_)
  obtain ⟨P, hP⟩ : ∃ P, M.2.2 = P := ⟨_, rfl⟩
  rw [hP] at hq
  have hm0 := hq.m0
  have hc24 := hI.2.1.2
  have hk3 := hI.2.2.1.2
  refine g_iload_n (q := 1) hx d_Mo_noRead_0 rfl rfl ?_
  refine g_if_lt (q := 4) (t := 23) hx d_Mo_noRead_1 rfl rfl Iff.rfl (fun h1 => ?_) (fun h1 => ?_)
  · refine g_iconst (q := 24) (v := nI 1) hx d_Mo_noRead_23 rfl (by decide) ?_
    refine g_goto (q := 28) hx d_Mo_noRead_24 rfl ?_
    exact g_zret hx d_Mo_noRead_28 rfl (by decide) hQ ⟨Nat.le_refl _, Nat.le_refl _⟩ ⟨_, rfl, rfl, rfl, rfl, Or.inl ⟨rfl, fun ⟨u, h9, e9⟩ => absurd h1 (by rw [e9]; exact nI_pos (by have hcc : (if z = 0 then c else k) ≤ 24 := (by split <;> omega); omega))⟩⟩
  · refine g_iload_n (q := 5) hx d_Mo_noRead_4 rfl rfl ?_
    refine g_iload_n (q := 6) hx d_Mo_noRead_5 rfl rfl ?_
    refine g_if_eq (q := 9) (t := 16) hx d_Mo_noRead_6 rfl rfl Iff.rfl (fun h6 => ?_) (fun h6 => ?_)
    · refine g_aload_n (q := 17) hx d_Mo_noRead_16 rfl rfl ?_
      refine g_geti (q := 20) hx d_Mo_noRead_17 rfl fl_Mo_50 hq.g0 hI.2.1.1 ?_
      refine g_icmp_lt (q := 23) (t := 27) hx d_Mo_noRead_20 rfl rfl Iff.rfl (fun h20 => ?_) (fun h20 => ?_)
      · refine g_iconst (q := 28) (v := nI 0) hx d_Mo_noRead_27 rfl (by decide) ?_
        exact g_zret hx d_Mo_noRead_28 rfl (by decide) hQ ⟨Nat.le_refl _, Nat.le_refl _⟩ ⟨_, rfl, rfl, rfl, rfl, Or.inr ⟨rfl, by rw [if_pos h6]; exact z_lt0 h1 h20 (by omega)⟩⟩
      · refine g_iconst (q := 24) (v := nI 1) hx d_Mo_noRead_23 rfl (by decide) ?_
        refine g_goto (q := 28) hx d_Mo_noRead_24 rfl ?_
        exact g_zret hx d_Mo_noRead_28 rfl (by decide) hQ ⟨Nat.le_refl _, Nat.le_refl _⟩ ⟨_, rfl, rfl, rfl, rfl, Or.inl ⟨rfl, by rw [if_pos h6]; exact fun ⟨u, h9, e9⟩ => h20 (by rw [e9]; exact (nI_ltI (by omega) (by omega)).mpr h9)⟩⟩
    · refine g_aload_n (q := 10) hx d_Mo_noRead_9 rfl rfl ?_
      refine g_geti (q := 13) hx d_Mo_noRead_10 rfl fl_Mo_60 hq.g0 hI.2.2.1.1 ?_
      refine g_goto (q := 20) hx d_Mo_noRead_13 rfl ?_
      refine g_icmp_lt (q := 23) (t := 27) hx d_Mo_noRead_20 rfl rfl Iff.rfl (fun h20 => ?_) (fun h20 => ?_)
      · refine g_iconst (q := 28) (v := nI 0) hx d_Mo_noRead_27 rfl (by decide) ?_
        exact g_zret hx d_Mo_noRead_28 rfl (by decide) hQ ⟨Nat.le_refl _, Nat.le_refl _⟩ ⟨_, rfl, rfl, rfl, rfl, Or.inr ⟨rfl, by rw [if_neg h6]; exact z_lt0 h1 h20 (by omega)⟩⟩
      · refine g_iconst (q := 24) (v := nI 1) hx d_Mo_noRead_23 rfl (by decide) ?_
        refine g_goto (q := 28) hx d_Mo_noRead_24 rfl ?_
        exact g_zret hx d_Mo_noRead_28 rfl (by decide) hQ ⟨Nat.le_refl _, Nat.le_refl _⟩ ⟨_, rfl, rfl, rfl, rfl, Or.inl ⟨rfl, by rw [if_neg h6]; exact fun ⟨u, h9, e9⟩ => h20 (by rw [e9]; exact (nI_ltI (by omega) (by omega)).mpr h9)⟩⟩
set_option maxHeartbeats 4000000 in
set_option maxRecDepth 100000 in
theorem c_Mo_about1 (l : Launch) (E : zE) (Γ : zG) (n : Nat) (M : zM) (m : Nat) (len c g k size : Nat) (ref arch : Nat → Nat) (fs hs : Nat → mRd) (ur : mRd) (hq : qX Γ M.2.2 m) (hI : qI M m len c g k size ref arch fs hs ur) (y w z : Int32) (hy : ¬ ∃ u : Nat, u < (if z = 0 then c else k) ∧ y = nI u) : zCt l E Y_Mo_about 1 (0, 0) [.ref m, .int y, .int w, .int z] Γ n M (zPi Γ n (fun v M' => M' = zsi M m 0 (nI 1))) := by
  refine zCt.of [(0, .ref m), (1, .int y), (2, .int w), (3, .int z)] (by decide) (Nat.le_of_ble_eq_true rfl) rfl (fun f hfl hx hQ => ?_)
  obtain ⟨P, hP⟩ : ∃ P, M.2.2 = P := ⟨_, rfl⟩
  rw [hP] at hq
  have hm0 := hq.m0
  refine g_aload_n (q := 1) hx d_Mo_about_0 rfl rfl ?_
  refine g_aload_n (q := 2) hx d_Mo_about_1 rfl rfl ?_
  refine g_iload_n (q := 3) hx d_Mo_about_2 rfl rfl ?_
  refine g_iload_n (q := 4) hx d_Mo_about_3 rfl rfl ?_
  refine g_ci (q := 7) (zrunV hx d_Mo_about_4 lk_Mo_78 rfl rfl hq.g0 rfl rfl (Nat.le_of_ble_eq_true rfl) (by decide) (by omega) (by omega) (c_Mo_noRead _ E Γ n _ m len c g k size ref arch fs hs ur (by rw [hP]; exact hq) hI y z)) rfl (fun r4 M1 p4 => ?_)
  obtain ⟨rfl, p4⟩ := p4
  obtain rfl : r4 = nI 1 := (p4.resolve_right (fun q => hy q.2)).1
  refine g_if_eq (q := 10) (t := 14) hx d_Mo_about_7 rfl rfl (zb_eq0 (by omega)) (fun h7 => ?_) (fun h7 => ?_)
  · exact absurd h7 (by omega)
  · refine g_iconst (q := 11) (v := nI 1) hx d_Mo_about_10 rfl (by decide) ?_
    refine g_goto (q := 28) hx d_Mo_about_11 rfl ?_
    refine g_puti (q := 31) hx d_Mo_about_28 rfl fl_Mo_46 nf_7_0 hq.g0 ?_
    refine g_aload_n (q := 32) hx d_Mo_about_31 rfl rfl ?_
    refine g_geti (q := 35) hx d_Mo_about_32 rfl fl_Mo_46 hq.g0 (zi_s _ _ _ _) ?_
    refine g_if_le (q := 38) (t := 40) hx d_Mo_about_35 rfl rfl (zb_le0 (by omega)) (fun h35 => ?_) (fun h35 => ?_)
    · exact absurd h35 (by omega)
    · refine g_iconst (q := 39) (v := nI 0) hx d_Mo_about_38 rfl (by decide) ?_
      exact g_iret hx d_Mo_about_39 rfl hQ ⟨Nat.le_refl _, Nat.le_refl _⟩ ⟨_, rfl, rfl, rfl, rfl⟩
set_option maxHeartbeats 4000000 in
set_option maxRecDepth 100000 in
theorem c_Mo_about2 (l : Launch) (E : zE) (Γ : zG) (n : Nat) (M : zM) (m : Nat) (len c g k size : Nat) (ref arch : Nat → Nat) (fs hs : Nat → mRd) (ur : mRd) (hq : qX Γ M.2.2 m) (hI : qI M m len c g k size ref arch fs hs ur) (u : Nat) (w z : Int32) (hu : u < (if z = 0 then c else k)) (hw : ¬ ∃ v : Nat, 0 ≤ v ∧ v ≤ 3 ∧ w = nI v) : zCt l E Y_Mo_about 1 (0, 0) [.ref m, .int (nI u), .int w, .int z] Γ n M (zPi Γ n (fun v M' => M' = zsi M m 0 (nI 2))) := by
  refine zCt.of [(0, .ref m), (1, .int (nI u)), (2, .int w), (3, .int z)] (by decide) (Nat.le_of_ble_eq_true rfl) rfl (fun f hfl hx hQ => ?_)
  obtain ⟨P, hP⟩ : ∃ P, M.2.2 = P := ⟨_, rfl⟩
  rw [hP] at hq
  have hm0 := hq.m0
  refine g_aload_n (q := 1) hx d_Mo_about_0 rfl rfl ?_
  refine g_aload_n (q := 2) hx d_Mo_about_1 rfl rfl ?_
  refine g_iload_n (q := 3) hx d_Mo_about_2 rfl rfl ?_
  refine g_iload_n (q := 4) hx d_Mo_about_3 rfl rfl ?_
  refine g_ci (q := 7) (zrunV hx d_Mo_about_4 lk_Mo_78 rfl rfl hq.g0 rfl rfl (Nat.le_of_ble_eq_true rfl) (by decide) (by omega) (by omega) (c_Mo_noRead _ E Γ n _ m len c g k size ref arch fs hs ur (by rw [hP]; exact hq) hI (nI u) z)) rfl (fun r4 M1 p4 => ?_)
  obtain ⟨rfl, p4⟩ := p4
  obtain rfl : r4 = nI 0 := (p4.resolve_left (fun q => q.2 ⟨u, hu, rfl⟩)).1
  refine g_if_eq (q := 10) (t := 14) hx d_Mo_about_7 rfl rfl (zb_eq0 (by omega)) (fun h7 => ?_) (fun h7 => ?_)
  · refine g_iload_n (q := 15) hx d_Mo_about_14 rfl rfl ?_
    refine g_if_lt (q := 18) (t := 23) hx d_Mo_about_15 rfl rfl Iff.rfl (fun h15 => ?_) (fun h15 => ?_)
    · refine g_iconst (q := 24) (v := nI 2) hx d_Mo_about_23 rfl (by decide) ?_
      refine g_goto (q := 28) hx d_Mo_about_24 rfl ?_
      refine g_puti (q := 31) hx d_Mo_about_28 rfl fl_Mo_46 nf_7_0 hq.g0 ?_
      refine g_aload_n (q := 32) hx d_Mo_about_31 rfl rfl ?_
      refine g_geti (q := 35) hx d_Mo_about_32 rfl fl_Mo_46 hq.g0 (zi_s _ _ _ _) ?_
      refine g_if_le (q := 38) (t := 40) hx d_Mo_about_35 rfl rfl (zb_le0 (by omega)) (fun h35 => ?_) (fun h35 => ?_)
      · exact absurd h35 (by omega)
      · refine g_iconst (q := 39) (v := nI 0) hx d_Mo_about_38 rfl (by decide) ?_
        exact g_iret hx d_Mo_about_39 rfl hQ ⟨Nat.le_refl _, Nat.le_refl _⟩ ⟨_, rfl, rfl, rfl, rfl⟩
    · refine g_iload_n (q := 19) hx d_Mo_about_18 rfl rfl ?_
      refine g_iconst (q := 20) (v := nI 3) hx d_Mo_about_19 rfl (by decide) ?_
      refine g_icmp_le (q := 23) (t := 27) hx d_Mo_about_20 rfl rfl Iff.rfl (fun h20 => ?_) (fun h20 => ?_)
      · exact absurd (z_in (a := 0) (by rw [nI_0]; exact h15) h20 (by omega)) hw
      · refine g_iconst (q := 24) (v := nI 2) hx d_Mo_about_23 rfl (by decide) ?_
        refine g_goto (q := 28) hx d_Mo_about_24 rfl ?_
        refine g_puti (q := 31) hx d_Mo_about_28 rfl fl_Mo_46 nf_7_0 hq.g0 ?_
        refine g_aload_n (q := 32) hx d_Mo_about_31 rfl rfl ?_
        refine g_geti (q := 35) hx d_Mo_about_32 rfl fl_Mo_46 hq.g0 (zi_s _ _ _ _) ?_
        refine g_if_le (q := 38) (t := 40) hx d_Mo_about_35 rfl rfl (zb_le0 (by omega)) (fun h35 => ?_) (fun h35 => ?_)
        · exact absurd h35 (by omega)
        · refine g_iconst (q := 39) (v := nI 0) hx d_Mo_about_38 rfl (by decide) ?_
          exact g_iret hx d_Mo_about_39 rfl hQ ⟨Nat.le_refl _, Nat.le_refl _⟩ ⟨_, rfl, rfl, rfl, rfl⟩
  · exact absurd h7 (by omega)
/-- what about answers of a read -/
def mWh (rd : mRd) (q : Nat) : Nat := if q = 0 then rd.1 else if q = 1 then mBc rd.2 else if q = 2 then rd.2.length else mPs rd.2
set_option maxHeartbeats 4000000 in
set_option maxRecDepth 100000 in
theorem c_Mo_about0 (l : Launch) (E : zE) (Γ : zG) (n : Nat) (M : zM) (m : Nat) (len c g k size : Nat) (ref arch : Nat → Nat) (fs hs : Nat → mRd) (ur : mRd) (hq : qX Γ M.2.2 m) (hI : qI M m len c g k size ref arch fs hs ur) (u q : Nat) (z : Int32) (hu : u < (if z = 0 then c else k)) (hw : q ≤ 3) : zCt l E Y_Mo_about 1 (0, 0) [.ref m, .int (nI u), .int (nI q), .int z] Γ n M (zPi Γ n (fun v M' => v = nI (mWh (if z = 0 then fs u else hs u) q) ∧ M' = zsi M m 0 (nI 0))) := by
  refine zCt.of [(0, .ref m), (1, .int (nI u)), (2, .int (nI q)), (3, .int z)] (by decide) (Nat.le_of_ble_eq_true rfl) rfl (fun f hfl hx hQ => ?_)
  obtain ⟨P, hP⟩ : ∃ P, M.2.2 = P := ⟨_, rfl⟩
  rw [hP] at hq
  have hm0 := hq.m0
  have hc24 := hI.2.1.2
  have hk3 := hI.2.2.1.2
  have hS : qS M m (if z = 0 then u else 24 + u) (if z = 0 then fs u else hs u) := by
    by_cases e : z = 0
    · rw [if_pos e, if_pos e]; rw [if_pos e] at hu; exact (hI.2.2.2.2.1 u hu).1
    · rw [if_neg e, if_neg e]; rw [if_neg e] at hu; exact (hI.2.2.2.2.2.1 u hu).1
  have hur : ∀ r, (if z = 0 then u else 24 + u) = r → r < 31 := fun r e => by
    rw [← e]; split at hu <;> split <;> omega
  have hq1 : ∀ r, (if z = 0 then u else 24 + u) = r → zi (zsi M m 0 (nI 0)) (m + 2) r = nI (if z = 0 then fs u else hs u).1 := fun r e => by rw [zi_a (by omega), ← e]; exact hS.1
  have hq2 : ∀ r, (if z = 0 then u else 24 + u) = r → zi (zsi M m 0 (nI 0)) (m + 3) r = nI (if z = 0 then fs u else hs u).2.length := fun r e => by rw [zi_a (by omega), ← e]; exact hS.2.1
  have hq3 : ∀ r, (if z = 0 then u else 24 + u) = r → zi (zsi M m 0 (nI 0)) (m + 4) r = nI (mBc (if z = 0 then fs u else hs u).2) := fun r e => by rw [zi_a (by omega), ← e]; exact hS.2.2.1
  have hq4 : ∀ r, (if z = 0 then u else 24 + u) = r → zi (zsi M m 0 (nI 0)) (m + 5) r = nI (mPs (if z = 0 then fs u else hs u).2) := fun r e => by rw [zi_a (by omega), ← e]; exact hS.2.2.2.1
  obtain rfl | rfl | rfl | rfl : q = 0 ∨ q = 1 ∨ q = 2 ∨ q = 3 := by omega
  · refine g_aload_n (q := 1) hx d_Mo_about_0 rfl rfl ?_
    refine g_aload_n (q := 2) hx d_Mo_about_1 rfl rfl ?_
    refine g_iload_n (q := 3) hx d_Mo_about_2 rfl rfl ?_
    refine g_iload_n (q := 4) hx d_Mo_about_3 rfl rfl ?_
    refine g_ci (q := 7) (zrunV hx d_Mo_about_4 lk_Mo_78 rfl rfl hq.g0 rfl rfl (Nat.le_of_ble_eq_true rfl) (by decide) (by omega) (by omega) (c_Mo_noRead _ E Γ n _ m len c g k size ref arch fs hs ur (by rw [hP]; exact hq) hI (nI u) z)) rfl (fun r4 M1 p4 => ?_)
    obtain ⟨rfl, p4⟩ := p4
    obtain rfl : r4 = nI 0 := (p4.resolve_left (fun q => q.2 ⟨u, hu, rfl⟩)).1
    refine g_if_eq (q := 10) (t := 14) hx d_Mo_about_7 rfl rfl (zb_eq0 (by omega)) (fun h7 => ?_) (fun h7 => ?_)
    · refine g_iload_n (q := 15) hx d_Mo_about_14 rfl rfl ?_
      refine g_if_lt (q := 18) (t := 23) hx d_Mo_about_15 rfl rfl (zb_lt0 (by omega)) (fun h15 => ?_) (fun h15 => ?_)
      · exact h15.elim
      · refine g_iload_n (q := 19) hx d_Mo_about_18 rfl rfl ?_
        refine g_iconst (q := 20) (v := nI 3) hx d_Mo_about_19 rfl (by decide) ?_
        refine g_icmp_le (q := 23) (t := 27) hx d_Mo_about_20 rfl rfl (nI_leI (by omega) (by omega)) (fun h20 => ?_) (fun h20 => ?_)
        · refine g_iconst (q := 28) (v := nI 0) hx d_Mo_about_27 rfl (by decide) ?_
          refine g_puti (q := 31) hx d_Mo_about_28 rfl fl_Mo_46 nf_7_0 hq.g0 ?_
          refine g_aload_n (q := 32) hx d_Mo_about_31 rfl rfl ?_
          refine g_geti (q := 35) hx d_Mo_about_32 rfl fl_Mo_46 hq.g0 (zi_s _ _ _ _) ?_
          refine g_if_le (q := 38) (t := 40) hx d_Mo_about_35 rfl rfl (zb_le0 (by omega)) (fun h35 => ?_) (fun h35 => ?_)
          · refine g_iload_n (q := 41) hx d_Mo_about_40 rfl rfl ?_
            refine g_if_eq (q := 44) (t := 51) hx d_Mo_about_41 rfl rfl Iff.rfl (fun h41 => ?_) (fun h41 => ?_)
            · refine g_iload_n (q := 52) hx d_Mo_about_51 rfl rfl ?_
              refine g_istore (q := 54) (lc' := [(4, _), (0, _), (1, _), (2, _), (3, _)]) hx d_Mo_about_52 rfl (by decide) rfl ?_
              refine g_iload_n (q := 55) hx d_Mo_about_54 rfl rfl ?_
              refine g_if_ne (q := 58) (t := 68) hx d_Mo_about_55 rfl rfl (zb_ne0 (by omega)) (fun h55 => ?_) (fun h55 => ?_)
              · exact absurd h55 (by omega)
              · refine g_aload_n (q := 59) hx d_Mo_about_58 rfl rfl ?_
                refine g_geta (q := 62) hx d_Mo_about_59 rfl fl_Mo_13 hq.g0 (hq.p2 hP) (by first | exact Nat.succ_ne_zero _ | omega) ?_
                refine g_iload (q := 64) hx d_Mo_about_62 rfl rfl ?_
                refine g_iald (q := 65) hx d_Mo_about_64 rfl hq.g2 rfl (by have := hur _ (by first | exact if_pos h41 | exact if_neg h41); omega) (by decide) (hq1 _ (by first | exact if_pos h41 | exact if_neg h41)) ?_
                refine g_goto (q := 105) hx d_Mo_about_65 rfl ?_
                exact g_iret hx d_Mo_about_105 rfl hQ ⟨Nat.le_refl _, Nat.le_refl _⟩ ⟨_, rfl, rfl, rfl, rfl, rfl⟩
            · refine g_bipush (q := 46) (v := nI 24) hx d_Mo_about_44 rfl (by decide) ?_
              refine g_iload_n (q := 47) hx d_Mo_about_46 rfl rfl ?_
              refine g_iadd (q := 48) hx d_Mo_about_47 rfl (nI_add _ _) ?_
              refine g_goto (q := 52) hx d_Mo_about_48 rfl ?_
              refine g_istore (q := 54) (lc' := [(4, _), (0, _), (1, _), (2, _), (3, _)]) hx d_Mo_about_52 rfl (by decide) rfl ?_
              refine g_iload_n (q := 55) hx d_Mo_about_54 rfl rfl ?_
              refine g_if_ne (q := 58) (t := 68) hx d_Mo_about_55 rfl rfl (zb_ne0 (by omega)) (fun h55 => ?_) (fun h55 => ?_)
              · exact absurd h55 (by omega)
              · refine g_aload_n (q := 59) hx d_Mo_about_58 rfl rfl ?_
                refine g_geta (q := 62) hx d_Mo_about_59 rfl fl_Mo_13 hq.g0 (hq.p2 hP) (by first | exact Nat.succ_ne_zero _ | omega) ?_
                refine g_iload (q := 64) hx d_Mo_about_62 rfl rfl ?_
                refine g_iald (q := 65) hx d_Mo_about_64 rfl hq.g2 rfl (by have := hur _ (by first | exact if_pos h41 | exact if_neg h41); omega) (by decide) (hq1 _ (by first | exact if_pos h41 | exact if_neg h41)) ?_
                refine g_goto (q := 105) hx d_Mo_about_65 rfl ?_
                exact g_iret hx d_Mo_about_105 rfl hQ ⟨Nat.le_refl _, Nat.le_refl _⟩ ⟨_, rfl, rfl, rfl, rfl, rfl⟩
          · exact absurd h35 (by omega)
        · exact absurd h20 (by omega)
    · exact absurd h7 (by omega)
  · refine g_aload_n (q := 1) hx d_Mo_about_0 rfl rfl ?_
    refine g_aload_n (q := 2) hx d_Mo_about_1 rfl rfl ?_
    refine g_iload_n (q := 3) hx d_Mo_about_2 rfl rfl ?_
    refine g_iload_n (q := 4) hx d_Mo_about_3 rfl rfl ?_
    refine g_ci (q := 7) (zrunV hx d_Mo_about_4 lk_Mo_78 rfl rfl hq.g0 rfl rfl (Nat.le_of_ble_eq_true rfl) (by decide) (by omega) (by omega) (c_Mo_noRead _ E Γ n _ m len c g k size ref arch fs hs ur (by rw [hP]; exact hq) hI (nI u) z)) rfl (fun r4 M1 p4 => ?_)
    obtain ⟨rfl, p4⟩ := p4
    obtain rfl : r4 = nI 0 := (p4.resolve_left (fun q => q.2 ⟨u, hu, rfl⟩)).1
    refine g_if_eq (q := 10) (t := 14) hx d_Mo_about_7 rfl rfl (zb_eq0 (by omega)) (fun h7 => ?_) (fun h7 => ?_)
    · refine g_iload_n (q := 15) hx d_Mo_about_14 rfl rfl ?_
      refine g_if_lt (q := 18) (t := 23) hx d_Mo_about_15 rfl rfl (zb_lt0 (by omega)) (fun h15 => ?_) (fun h15 => ?_)
      · exact h15.elim
      · refine g_iload_n (q := 19) hx d_Mo_about_18 rfl rfl ?_
        refine g_iconst (q := 20) (v := nI 3) hx d_Mo_about_19 rfl (by decide) ?_
        refine g_icmp_le (q := 23) (t := 27) hx d_Mo_about_20 rfl rfl (nI_leI (by omega) (by omega)) (fun h20 => ?_) (fun h20 => ?_)
        · refine g_iconst (q := 28) (v := nI 0) hx d_Mo_about_27 rfl (by decide) ?_
          refine g_puti (q := 31) hx d_Mo_about_28 rfl fl_Mo_46 nf_7_0 hq.g0 ?_
          refine g_aload_n (q := 32) hx d_Mo_about_31 rfl rfl ?_
          refine g_geti (q := 35) hx d_Mo_about_32 rfl fl_Mo_46 hq.g0 (zi_s _ _ _ _) ?_
          refine g_if_le (q := 38) (t := 40) hx d_Mo_about_35 rfl rfl (zb_le0 (by omega)) (fun h35 => ?_) (fun h35 => ?_)
          · refine g_iload_n (q := 41) hx d_Mo_about_40 rfl rfl ?_
            refine g_if_eq (q := 44) (t := 51) hx d_Mo_about_41 rfl rfl Iff.rfl (fun h41 => ?_) (fun h41 => ?_)
            · refine g_iload_n (q := 52) hx d_Mo_about_51 rfl rfl ?_
              refine g_istore (q := 54) (lc' := [(4, _), (0, _), (1, _), (2, _), (3, _)]) hx d_Mo_about_52 rfl (by decide) rfl ?_
              refine g_iload_n (q := 55) hx d_Mo_about_54 rfl rfl ?_
              refine g_if_ne (q := 58) (t := 68) hx d_Mo_about_55 rfl rfl (zb_ne0 (by omega)) (fun h55 => ?_) (fun h55 => ?_)
              · refine g_iload_n (q := 69) hx d_Mo_about_68 rfl rfl ?_
                refine g_iconst (q := 70) (v := nI 1) hx d_Mo_about_69 rfl (by decide) ?_
                refine g_icmp_ne (q := 73) (t := 83) hx d_Mo_about_70 rfl rfl (not_congr (nI_eq (by omega) (by omega))) (fun h70 => ?_) (fun h70 => ?_)
                · exact absurd h70 (by omega)
                · refine g_aload_n (q := 74) hx d_Mo_about_73 rfl rfl ?_
                  refine g_geta (q := 77) hx d_Mo_about_74 rfl fl_Mo_19 hq.g0 (hq.p4 hP) (by first | exact Nat.succ_ne_zero _ | omega) ?_
                  refine g_iload (q := 79) hx d_Mo_about_77 rfl rfl ?_
                  refine g_iald (q := 80) hx d_Mo_about_79 rfl hq.g4 rfl (by have := hur _ (by first | exact if_pos h41 | exact if_neg h41); omega) (by decide) (hq3 _ (by first | exact if_pos h41 | exact if_neg h41)) ?_
                  refine g_goto (q := 105) hx d_Mo_about_80 rfl ?_
                  exact g_iret hx d_Mo_about_105 rfl hQ ⟨Nat.le_refl _, Nat.le_refl _⟩ ⟨_, rfl, rfl, rfl, rfl, rfl⟩
              · exact absurd h55 (by omega)
            · refine g_bipush (q := 46) (v := nI 24) hx d_Mo_about_44 rfl (by decide) ?_
              refine g_iload_n (q := 47) hx d_Mo_about_46 rfl rfl ?_
              refine g_iadd (q := 48) hx d_Mo_about_47 rfl (nI_add _ _) ?_
              refine g_goto (q := 52) hx d_Mo_about_48 rfl ?_
              refine g_istore (q := 54) (lc' := [(4, _), (0, _), (1, _), (2, _), (3, _)]) hx d_Mo_about_52 rfl (by decide) rfl ?_
              refine g_iload_n (q := 55) hx d_Mo_about_54 rfl rfl ?_
              refine g_if_ne (q := 58) (t := 68) hx d_Mo_about_55 rfl rfl (zb_ne0 (by omega)) (fun h55 => ?_) (fun h55 => ?_)
              · refine g_iload_n (q := 69) hx d_Mo_about_68 rfl rfl ?_
                refine g_iconst (q := 70) (v := nI 1) hx d_Mo_about_69 rfl (by decide) ?_
                refine g_icmp_ne (q := 73) (t := 83) hx d_Mo_about_70 rfl rfl (not_congr (nI_eq (by omega) (by omega))) (fun h70 => ?_) (fun h70 => ?_)
                · exact absurd h70 (by omega)
                · refine g_aload_n (q := 74) hx d_Mo_about_73 rfl rfl ?_
                  refine g_geta (q := 77) hx d_Mo_about_74 rfl fl_Mo_19 hq.g0 (hq.p4 hP) (by first | exact Nat.succ_ne_zero _ | omega) ?_
                  refine g_iload (q := 79) hx d_Mo_about_77 rfl rfl ?_
                  refine g_iald (q := 80) hx d_Mo_about_79 rfl hq.g4 rfl (by have := hur _ (by first | exact if_pos h41 | exact if_neg h41); omega) (by decide) (hq3 _ (by first | exact if_pos h41 | exact if_neg h41)) ?_
                  refine g_goto (q := 105) hx d_Mo_about_80 rfl ?_
                  exact g_iret hx d_Mo_about_105 rfl hQ ⟨Nat.le_refl _, Nat.le_refl _⟩ ⟨_, rfl, rfl, rfl, rfl, rfl⟩
              · exact absurd h55 (by omega)
          · exact absurd h35 (by omega)
        · exact absurd h20 (by omega)
    · exact absurd h7 (by omega)
  · refine g_aload_n (q := 1) hx d_Mo_about_0 rfl rfl ?_
    refine g_aload_n (q := 2) hx d_Mo_about_1 rfl rfl ?_
    refine g_iload_n (q := 3) hx d_Mo_about_2 rfl rfl ?_
    refine g_iload_n (q := 4) hx d_Mo_about_3 rfl rfl ?_
    refine g_ci (q := 7) (zrunV hx d_Mo_about_4 lk_Mo_78 rfl rfl hq.g0 rfl rfl (Nat.le_of_ble_eq_true rfl) (by decide) (by omega) (by omega) (c_Mo_noRead _ E Γ n _ m len c g k size ref arch fs hs ur (by rw [hP]; exact hq) hI (nI u) z)) rfl (fun r4 M1 p4 => ?_)
    obtain ⟨rfl, p4⟩ := p4
    obtain rfl : r4 = nI 0 := (p4.resolve_left (fun q => q.2 ⟨u, hu, rfl⟩)).1
    refine g_if_eq (q := 10) (t := 14) hx d_Mo_about_7 rfl rfl (zb_eq0 (by omega)) (fun h7 => ?_) (fun h7 => ?_)
    · refine g_iload_n (q := 15) hx d_Mo_about_14 rfl rfl ?_
      refine g_if_lt (q := 18) (t := 23) hx d_Mo_about_15 rfl rfl (zb_lt0 (by omega)) (fun h15 => ?_) (fun h15 => ?_)
      · exact h15.elim
      · refine g_iload_n (q := 19) hx d_Mo_about_18 rfl rfl ?_
        refine g_iconst (q := 20) (v := nI 3) hx d_Mo_about_19 rfl (by decide) ?_
        refine g_icmp_le (q := 23) (t := 27) hx d_Mo_about_20 rfl rfl (nI_leI (by omega) (by omega)) (fun h20 => ?_) (fun h20 => ?_)
        · refine g_iconst (q := 28) (v := nI 0) hx d_Mo_about_27 rfl (by decide) ?_
          refine g_puti (q := 31) hx d_Mo_about_28 rfl fl_Mo_46 nf_7_0 hq.g0 ?_
          refine g_aload_n (q := 32) hx d_Mo_about_31 rfl rfl ?_
          refine g_geti (q := 35) hx d_Mo_about_32 rfl fl_Mo_46 hq.g0 (zi_s _ _ _ _) ?_
          refine g_if_le (q := 38) (t := 40) hx d_Mo_about_35 rfl rfl (zb_le0 (by omega)) (fun h35 => ?_) (fun h35 => ?_)
          · refine g_iload_n (q := 41) hx d_Mo_about_40 rfl rfl ?_
            refine g_if_eq (q := 44) (t := 51) hx d_Mo_about_41 rfl rfl Iff.rfl (fun h41 => ?_) (fun h41 => ?_)
            · refine g_iload_n (q := 52) hx d_Mo_about_51 rfl rfl ?_
              refine g_istore (q := 54) (lc' := [(4, _), (0, _), (1, _), (2, _), (3, _)]) hx d_Mo_about_52 rfl (by decide) rfl ?_
              refine g_iload_n (q := 55) hx d_Mo_about_54 rfl rfl ?_
              refine g_if_ne (q := 58) (t := 68) hx d_Mo_about_55 rfl rfl (zb_ne0 (by omega)) (fun h55 => ?_) (fun h55 => ?_)
              · refine g_iload_n (q := 69) hx d_Mo_about_68 rfl rfl ?_
                refine g_iconst (q := 70) (v := nI 1) hx d_Mo_about_69 rfl (by decide) ?_
                refine g_icmp_ne (q := 73) (t := 83) hx d_Mo_about_70 rfl rfl (not_congr (nI_eq (by omega) (by omega))) (fun h70 => ?_) (fun h70 => ?_)
                · refine g_iload_n (q := 84) hx d_Mo_about_83 rfl rfl ?_
                  refine g_iconst (q := 85) (v := nI 2) hx d_Mo_about_84 rfl (by decide) ?_
                  refine g_icmp_ne (q := 88) (t := 98) hx d_Mo_about_85 rfl rfl (not_congr (nI_eq (by omega) (by omega))) (fun h85 => ?_) (fun h85 => ?_)
                  · exact absurd h85 (by omega)
                  · refine g_aload_n (q := 89) hx d_Mo_about_88 rfl rfl ?_
                    refine g_geta (q := 92) hx d_Mo_about_89 rfl fl_Mo_16 hq.g0 (hq.p3 hP) (by first | exact Nat.succ_ne_zero _ | omega) ?_
                    refine g_iload (q := 94) hx d_Mo_about_92 rfl rfl ?_
                    refine g_iald (q := 95) hx d_Mo_about_94 rfl hq.g3 rfl (by have := hur _ (by first | exact if_pos h41 | exact if_neg h41); omega) (by decide) (hq2 _ (by first | exact if_pos h41 | exact if_neg h41)) ?_
                    refine g_goto (q := 105) hx d_Mo_about_95 rfl ?_
                    exact g_iret hx d_Mo_about_105 rfl hQ ⟨Nat.le_refl _, Nat.le_refl _⟩ ⟨_, rfl, rfl, rfl, rfl, rfl⟩
                · exact absurd h70 (by omega)
              · exact absurd h55 (by omega)
            · refine g_bipush (q := 46) (v := nI 24) hx d_Mo_about_44 rfl (by decide) ?_
              refine g_iload_n (q := 47) hx d_Mo_about_46 rfl rfl ?_
              refine g_iadd (q := 48) hx d_Mo_about_47 rfl (nI_add _ _) ?_
              refine g_goto (q := 52) hx d_Mo_about_48 rfl ?_
              refine g_istore (q := 54) (lc' := [(4, _), (0, _), (1, _), (2, _), (3, _)]) hx d_Mo_about_52 rfl (by decide) rfl ?_
              refine g_iload_n (q := 55) hx d_Mo_about_54 rfl rfl ?_
              refine g_if_ne (q := 58) (t := 68) hx d_Mo_about_55 rfl rfl (zb_ne0 (by omega)) (fun h55 => ?_) (fun h55 => ?_)
              · refine g_iload_n (q := 69) hx d_Mo_about_68 rfl rfl ?_
                refine g_iconst (q := 70) (v := nI 1) hx d_Mo_about_69 rfl (by decide) ?_
                refine g_icmp_ne (q := 73) (t := 83) hx d_Mo_about_70 rfl rfl (not_congr (nI_eq (by omega) (by omega))) (fun h70 => ?_) (fun h70 => ?_)
                · refine g_iload_n (q := 84) hx d_Mo_about_83 rfl rfl ?_
                  refine g_iconst (q := 85) (v := nI 2) hx d_Mo_about_84 rfl (by decide) ?_
                  refine g_icmp_ne (q := 88) (t := 98) hx d_Mo_about_85 rfl rfl (not_congr (nI_eq (by omega) (by omega))) (fun h85 => ?_) (fun h85 => ?_)
                  · exact absurd h85 (by omega)
                  · refine g_aload_n (q := 89) hx d_Mo_about_88 rfl rfl ?_
                    refine g_geta (q := 92) hx d_Mo_about_89 rfl fl_Mo_16 hq.g0 (hq.p3 hP) (by first | exact Nat.succ_ne_zero _ | omega) ?_
                    refine g_iload (q := 94) hx d_Mo_about_92 rfl rfl ?_
                    refine g_iald (q := 95) hx d_Mo_about_94 rfl hq.g3 rfl (by have := hur _ (by first | exact if_pos h41 | exact if_neg h41); omega) (by decide) (hq2 _ (by first | exact if_pos h41 | exact if_neg h41)) ?_
                    refine g_goto (q := 105) hx d_Mo_about_95 rfl ?_
                    exact g_iret hx d_Mo_about_105 rfl hQ ⟨Nat.le_refl _, Nat.le_refl _⟩ ⟨_, rfl, rfl, rfl, rfl, rfl⟩
                · exact absurd h70 (by omega)
              · exact absurd h55 (by omega)
          · exact absurd h35 (by omega)
        · exact absurd h20 (by omega)
    · exact absurd h7 (by omega)
  · refine g_aload_n (q := 1) hx d_Mo_about_0 rfl rfl ?_
    refine g_aload_n (q := 2) hx d_Mo_about_1 rfl rfl ?_
    refine g_iload_n (q := 3) hx d_Mo_about_2 rfl rfl ?_
    refine g_iload_n (q := 4) hx d_Mo_about_3 rfl rfl ?_
    refine g_ci (q := 7) (zrunV hx d_Mo_about_4 lk_Mo_78 rfl rfl hq.g0 rfl rfl (Nat.le_of_ble_eq_true rfl) (by decide) (by omega) (by omega) (c_Mo_noRead _ E Γ n _ m len c g k size ref arch fs hs ur (by rw [hP]; exact hq) hI (nI u) z)) rfl (fun r4 M1 p4 => ?_)
    obtain ⟨rfl, p4⟩ := p4
    obtain rfl : r4 = nI 0 := (p4.resolve_left (fun q => q.2 ⟨u, hu, rfl⟩)).1
    refine g_if_eq (q := 10) (t := 14) hx d_Mo_about_7 rfl rfl (zb_eq0 (by omega)) (fun h7 => ?_) (fun h7 => ?_)
    · refine g_iload_n (q := 15) hx d_Mo_about_14 rfl rfl ?_
      refine g_if_lt (q := 18) (t := 23) hx d_Mo_about_15 rfl rfl (zb_lt0 (by omega)) (fun h15 => ?_) (fun h15 => ?_)
      · exact h15.elim
      · refine g_iload_n (q := 19) hx d_Mo_about_18 rfl rfl ?_
        refine g_iconst (q := 20) (v := nI 3) hx d_Mo_about_19 rfl (by decide) ?_
        refine g_icmp_le (q := 23) (t := 27) hx d_Mo_about_20 rfl rfl (nI_leI (by omega) (by omega)) (fun h20 => ?_) (fun h20 => ?_)
        · refine g_iconst (q := 28) (v := nI 0) hx d_Mo_about_27 rfl (by decide) ?_
          refine g_puti (q := 31) hx d_Mo_about_28 rfl fl_Mo_46 nf_7_0 hq.g0 ?_
          refine g_aload_n (q := 32) hx d_Mo_about_31 rfl rfl ?_
          refine g_geti (q := 35) hx d_Mo_about_32 rfl fl_Mo_46 hq.g0 (zi_s _ _ _ _) ?_
          refine g_if_le (q := 38) (t := 40) hx d_Mo_about_35 rfl rfl (zb_le0 (by omega)) (fun h35 => ?_) (fun h35 => ?_)
          · refine g_iload_n (q := 41) hx d_Mo_about_40 rfl rfl ?_
            refine g_if_eq (q := 44) (t := 51) hx d_Mo_about_41 rfl rfl Iff.rfl (fun h41 => ?_) (fun h41 => ?_)
            · refine g_iload_n (q := 52) hx d_Mo_about_51 rfl rfl ?_
              refine g_istore (q := 54) (lc' := [(4, _), (0, _), (1, _), (2, _), (3, _)]) hx d_Mo_about_52 rfl (by decide) rfl ?_
              refine g_iload_n (q := 55) hx d_Mo_about_54 rfl rfl ?_
              refine g_if_ne (q := 58) (t := 68) hx d_Mo_about_55 rfl rfl (zb_ne0 (by omega)) (fun h55 => ?_) (fun h55 => ?_)
              · refine g_iload_n (q := 69) hx d_Mo_about_68 rfl rfl ?_
                refine g_iconst (q := 70) (v := nI 1) hx d_Mo_about_69 rfl (by decide) ?_
                refine g_icmp_ne (q := 73) (t := 83) hx d_Mo_about_70 rfl rfl (not_congr (nI_eq (by omega) (by omega))) (fun h70 => ?_) (fun h70 => ?_)
                · refine g_iload_n (q := 84) hx d_Mo_about_83 rfl rfl ?_
                  refine g_iconst (q := 85) (v := nI 2) hx d_Mo_about_84 rfl (by decide) ?_
                  refine g_icmp_ne (q := 88) (t := 98) hx d_Mo_about_85 rfl rfl (not_congr (nI_eq (by omega) (by omega))) (fun h85 => ?_) (fun h85 => ?_)
                  · refine g_aload_n (q := 99) hx d_Mo_about_98 rfl rfl ?_
                    refine g_geta (q := 102) hx d_Mo_about_99 rfl fl_Mo_22 hq.g0 (hq.p5 hP) (by first | exact Nat.succ_ne_zero _ | omega) ?_
                    refine g_iload (q := 104) hx d_Mo_about_102 rfl rfl ?_
                    refine g_iald (q := 105) hx d_Mo_about_104 rfl hq.g5 rfl (by have := hur _ (by first | exact if_pos h41 | exact if_neg h41); omega) (by decide) (hq4 _ (by first | exact if_pos h41 | exact if_neg h41)) ?_
                    exact g_iret hx d_Mo_about_105 rfl hQ ⟨Nat.le_refl _, Nat.le_refl _⟩ ⟨_, rfl, rfl, rfl, rfl, rfl⟩
                  · exact absurd h85 (by omega)
                · exact absurd h70 (by omega)
              · exact absurd h55 (by omega)
            · refine g_bipush (q := 46) (v := nI 24) hx d_Mo_about_44 rfl (by decide) ?_
              refine g_iload_n (q := 47) hx d_Mo_about_46 rfl rfl ?_
              refine g_iadd (q := 48) hx d_Mo_about_47 rfl (nI_add _ _) ?_
              refine g_goto (q := 52) hx d_Mo_about_48 rfl ?_
              refine g_istore (q := 54) (lc' := [(4, _), (0, _), (1, _), (2, _), (3, _)]) hx d_Mo_about_52 rfl (by decide) rfl ?_
              refine g_iload_n (q := 55) hx d_Mo_about_54 rfl rfl ?_
              refine g_if_ne (q := 58) (t := 68) hx d_Mo_about_55 rfl rfl (zb_ne0 (by omega)) (fun h55 => ?_) (fun h55 => ?_)
              · refine g_iload_n (q := 69) hx d_Mo_about_68 rfl rfl ?_
                refine g_iconst (q := 70) (v := nI 1) hx d_Mo_about_69 rfl (by decide) ?_
                refine g_icmp_ne (q := 73) (t := 83) hx d_Mo_about_70 rfl rfl (not_congr (nI_eq (by omega) (by omega))) (fun h70 => ?_) (fun h70 => ?_)
                · refine g_iload_n (q := 84) hx d_Mo_about_83 rfl rfl ?_
                  refine g_iconst (q := 85) (v := nI 2) hx d_Mo_about_84 rfl (by decide) ?_
                  refine g_icmp_ne (q := 88) (t := 98) hx d_Mo_about_85 rfl rfl (not_congr (nI_eq (by omega) (by omega))) (fun h85 => ?_) (fun h85 => ?_)
                  · refine g_aload_n (q := 99) hx d_Mo_about_98 rfl rfl ?_
                    refine g_geta (q := 102) hx d_Mo_about_99 rfl fl_Mo_22 hq.g0 (hq.p5 hP) (by first | exact Nat.succ_ne_zero _ | omega) ?_
                    refine g_iload (q := 104) hx d_Mo_about_102 rfl rfl ?_
                    refine g_iald (q := 105) hx d_Mo_about_104 rfl hq.g5 rfl (by have := hur _ (by first | exact if_pos h41 | exact if_neg h41); omega) (by decide) (hq4 _ (by first | exact if_pos h41 | exact if_neg h41)) ?_
                    exact g_iret hx d_Mo_about_105 rfl hQ ⟨Nat.le_refl _, Nat.le_refl _⟩ ⟨_, rfl, rfl, rfl, rfl, rfl⟩
                  · exact absurd h85 (by omega)
                · exact absurd h70 (by omega)
              · exact absurd h55 (by omega)
          · exact absurd h35 (by omega)
        · exact absurd h20 (by omega)
    · exact absurd h7 (by omega)
set_option maxHeartbeats 4000000 in
set_option maxRecDepth 100000 in
theorem c_Mo_base1 (l : Launch) (E : zE) (Γ : zG) (n : Nat) (M : zM) (m : Nat) (len c g k size : Nat) (ref arch : Nat → Nat) (fs hs : Nat → mRd) (ur : mRd) (hq : qX Γ M.2.2 m) (hI : qI M m len c g k size ref arch fs hs ur) (y w z : Int32) (hy : ¬ ∃ u : Nat, u < (if z = 0 then c else k) ∧ y = nI u) : zCt l E Y_Mo_base 1 (0, 0) [.ref m, .int y, .int w, .int z] Γ n M (zPi Γ n (fun v M' => M' = zsi M m 0 (nI 1))) := by
  refine zCt.of [(0, .ref m), (1, .int y), (2, .int w), (3, .int z)] (by decide) (Nat.le_of_ble_eq_true rfl) rfl (fun f hfl hx hQ => ?_)
  obtain ⟨P, hP⟩ : ∃ P, M.2.2 = P := ⟨_, rfl⟩
  rw [hP] at hq
  have hm0 := hq.m0
  refine g_iload_n (q := 1) hx d_Mo_base_0 rfl rfl ?_
  refine g_if_eq (q := 4) (t := 11) hx d_Mo_base_1 rfl rfl Iff.rfl (fun h1 => ?_) (fun h1 => ?_)
  · refine g_iload_n (q := 12) hx d_Mo_base_11 rfl rfl ?_
    refine g_istore (q := 14) (lc' := [(4, _), (0, _), (1, _), (2, _), (3, _)]) hx d_Mo_base_12 rfl (by decide) rfl ?_
    refine g_aload_n (q := 15) hx d_Mo_base_14 rfl rfl ?_
    refine g_aload_n (q := 16) hx d_Mo_base_15 rfl rfl ?_
    refine g_iload_n (q := 17) hx d_Mo_base_16 rfl rfl ?_
    refine g_iload_n (q := 18) hx d_Mo_base_17 rfl rfl ?_
    refine g_ci (q := 21) (zrunV hx d_Mo_base_18 lk_Mo_78 rfl rfl hq.g0 rfl rfl (Nat.le_of_ble_eq_true rfl) (by decide) (by omega) (by omega) (c_Mo_noRead _ E Γ n _ m len c g k size ref arch fs hs ur (by rw [hP]; exact hq) hI y z)) rfl (fun r18 M1 p18 => ?_)
    obtain ⟨rfl, p18⟩ := p18
    obtain rfl : r18 = nI 1 := (p18.resolve_right (fun q => hy q.2)).1
    refine g_if_ne (q := 24) (t := 39) hx d_Mo_base_21 rfl rfl (zb_ne0 (by omega)) (fun h21 => ?_) (fun h21 => ?_)
    · refine g_iconst (q := 40) (v := nI 1) hx d_Mo_base_39 rfl (by decide) ?_
      refine g_goto (q := 44) hx d_Mo_base_40 rfl ?_
      refine g_puti (q := 47) hx d_Mo_base_44 rfl fl_Mo_46 nf_7_0 hq.g0 ?_
      refine g_aload_n (q := 48) hx d_Mo_base_47 rfl rfl ?_
      refine g_geti (q := 51) hx d_Mo_base_48 rfl fl_Mo_46 hq.g0 (zi_s _ _ _ _) ?_
      refine g_if_le (q := 54) (t := 56) hx d_Mo_base_51 rfl rfl (zb_le0 (by omega)) (fun h51 => ?_) (fun h51 => ?_)
      · exact absurd h51 (by omega)
      · refine g_iconst (q := 55) (v := nI 0) hx d_Mo_base_54 rfl (by decide) ?_
        exact g_iret hx d_Mo_base_55 rfl hQ ⟨Nat.le_refl _, Nat.le_refl _⟩ ⟨_, rfl, rfl, rfl, rfl⟩
    · exact absurd h21 (by omega)
  · refine g_bipush (q := 6) (v := nI 24) hx d_Mo_base_4 rfl (by decide) ?_
    refine g_iload_n (q := 7) hx d_Mo_base_6 rfl rfl ?_
    refine g_iadd (q := 8) hx d_Mo_base_7 rfl rfl ?_
    refine g_goto (q := 12) hx d_Mo_base_8 rfl ?_
    refine g_istore (q := 14) (lc' := [(4, _), (0, _), (1, _), (2, _), (3, _)]) hx d_Mo_base_12 rfl (by decide) rfl ?_
    refine g_aload_n (q := 15) hx d_Mo_base_14 rfl rfl ?_
    refine g_aload_n (q := 16) hx d_Mo_base_15 rfl rfl ?_
    refine g_iload_n (q := 17) hx d_Mo_base_16 rfl rfl ?_
    refine g_iload_n (q := 18) hx d_Mo_base_17 rfl rfl ?_
    refine g_ci (q := 21) (zrunV hx d_Mo_base_18 lk_Mo_78 rfl rfl hq.g0 rfl rfl (Nat.le_of_ble_eq_true rfl) (by decide) (by omega) (by omega) (c_Mo_noRead _ E Γ n _ m len c g k size ref arch fs hs ur (by rw [hP]; exact hq) hI y z)) rfl (fun r18 M1 p18 => ?_)
    obtain ⟨rfl, p18⟩ := p18
    obtain rfl : r18 = nI 1 := (p18.resolve_right (fun q => hy q.2)).1
    refine g_if_ne (q := 24) (t := 39) hx d_Mo_base_21 rfl rfl (zb_ne0 (by omega)) (fun h21 => ?_) (fun h21 => ?_)
    · refine g_iconst (q := 40) (v := nI 1) hx d_Mo_base_39 rfl (by decide) ?_
      refine g_goto (q := 44) hx d_Mo_base_40 rfl ?_
      refine g_puti (q := 47) hx d_Mo_base_44 rfl fl_Mo_46 nf_7_0 hq.g0 ?_
      refine g_aload_n (q := 48) hx d_Mo_base_47 rfl rfl ?_
      refine g_geti (q := 51) hx d_Mo_base_48 rfl fl_Mo_46 hq.g0 (zi_s _ _ _ _) ?_
      refine g_if_le (q := 54) (t := 56) hx d_Mo_base_51 rfl rfl (zb_le0 (by omega)) (fun h51 => ?_) (fun h51 => ?_)
      · exact absurd h51 (by omega)
      · refine g_iconst (q := 55) (v := nI 0) hx d_Mo_base_54 rfl (by decide) ?_
        exact g_iret hx d_Mo_base_55 rfl hQ ⟨Nat.le_refl _, Nat.le_refl _⟩ ⟨_, rfl, rfl, rfl, rfl⟩
    · exact absurd h21 (by omega)
set_option maxHeartbeats 4000000 in
set_option maxRecDepth 100000 in
theorem c_Mo_base2 (l : Launch) (E : zE) (Γ : zG) (n : Nat) (M : zM) (m : Nat) (len c g k size : Nat) (ref arch : Nat → Nat) (fs hs : Nat → mRd) (ur : mRd) (hq : qX Γ M.2.2 m) (hI : qI M m len c g k size ref arch fs hs ur) (z : Int32) (u : Nat) (rd : mRd) (hrd : rd = if z = 0 then fs u else hs u) (hu : u < (if z = 0 then c else k)) (w : Int32) (hw : ¬ ∃ v : Nat, v < mBc rd.2 ∧ w = nI v) : zCt l E Y_Mo_base 1 (0, 0) [.ref m, .int (nI u), .int w, .int z] Γ n M (zPi Γ n (fun v M' => M' = zsi M m 0 (nI 1))) := by
  refine zCt.of [(0, .ref m), (1, .int (nI u)), (2, .int w), (3, .int z)] (by decide) (Nat.le_of_ble_eq_true rfl) rfl (fun f hfl hx hQ => ?_)
  obtain ⟨P, hP⟩ : ∃ P, M.2.2 = P := ⟨_, rfl⟩
  rw [hP] at hq
  have hm0 := hq.m0
  have hc24 := hI.2.1.2
  have hk3 := hI.2.2.1.2
  have hS : qS M m (if z = 0 then u else 24 + u) rd ∧ mOk ref len rd := by
    rw [hrd]
    by_cases e : z = 0
    · rw [if_pos e, if_pos e]; rw [if_pos e] at hu; exact hI.2.2.2.2.1 u hu
    · rw [if_neg e, if_neg e]; rw [if_neg e] at hu; exact hI.2.2.2.2.2.1 u hu
  obtain ⟨r, hre⟩ : ∃ r, (if z = 0 then u else 24 + u) = r := ⟨_, rfl⟩
  rw [hre] at hS
  have hur : r < 31 := by
    rw [← hre]; split at hu <;> split <;> omega
  obtain ⟨hS, hok⟩ := hS
  have h20 := hok.2.2.1
  refine g_iload_n (q := 1) hx d_Mo_base_0 rfl rfl ?_
  refine g_if_eq (q := 4) (t := 11) hx d_Mo_base_1 rfl rfl Iff.rfl (fun h1 => ?_) (fun h1 => ?_)
  · obtain rfl : u = r := by rw [if_pos h1] at hre; exact hre
    refine g_iload_n (q := 12) hx d_Mo_base_11 rfl rfl ?_
    refine g_istore (q := 14) (lc' := [(4, _), (0, _), (1, _), (2, _), (3, _)]) hx d_Mo_base_12 rfl (by decide) rfl ?_
    refine g_aload_n (q := 15) hx d_Mo_base_14 rfl rfl ?_
    refine g_aload_n (q := 16) hx d_Mo_base_15 rfl rfl ?_
    refine g_iload_n (q := 17) hx d_Mo_base_16 rfl rfl ?_
    refine g_iload_n (q := 18) hx d_Mo_base_17 rfl rfl ?_
    refine g_ci (q := 21) (zrunV hx d_Mo_base_18 lk_Mo_78 rfl rfl hq.g0 rfl rfl (Nat.le_of_ble_eq_true rfl) (by decide) (by omega) (by omega) (c_Mo_noRead _ E Γ n _ m len c g k size ref arch fs hs ur (by rw [hP]; exact hq) hI (nI u) z)) rfl (fun r18 M1 p18 => ?_)
    obtain ⟨rfl, p18⟩ := p18
    obtain rfl : r18 = nI 0 := (p18.resolve_left (fun q => q.2 ⟨u, hu, rfl⟩)).1
    refine g_if_ne (q := 24) (t := 39) hx d_Mo_base_21 rfl rfl (zb_ne0 (by omega)) (fun h21 => ?_) (fun h21 => ?_)
    · exact absurd h21 (by omega)
    · refine g_iload_n (q := 25) hx d_Mo_base_24 rfl rfl ?_
      refine g_if_lt (q := 28) (t := 39) hx d_Mo_base_25 rfl rfl Iff.rfl (fun h25 => ?_) (fun h25 => ?_)
      · refine g_iconst (q := 40) (v := nI 1) hx d_Mo_base_39 rfl (by decide) ?_
        refine g_goto (q := 44) hx d_Mo_base_40 rfl ?_
        refine g_puti (q := 47) hx d_Mo_base_44 rfl fl_Mo_46 nf_7_0 hq.g0 ?_
        refine g_aload_n (q := 48) hx d_Mo_base_47 rfl rfl ?_
        refine g_geti (q := 51) hx d_Mo_base_48 rfl fl_Mo_46 hq.g0 (zi_s _ _ _ _) ?_
        refine g_if_le (q := 54) (t := 56) hx d_Mo_base_51 rfl rfl (zb_le0 (by omega)) (fun h51 => ?_) (fun h51 => ?_)
        · exact absurd h51 (by omega)
        · refine g_iconst (q := 55) (v := nI 0) hx d_Mo_base_54 rfl (by decide) ?_
          exact g_iret hx d_Mo_base_55 rfl hQ ⟨Nat.le_refl _, Nat.le_refl _⟩ ⟨_, rfl, rfl, rfl, rfl⟩
      · refine g_iload_n (q := 29) hx d_Mo_base_28 rfl rfl ?_
        refine g_aload_n (q := 30) hx d_Mo_base_29 rfl rfl ?_
        refine g_geta (q := 33) hx d_Mo_base_30 rfl fl_Mo_19 hq.g0 (hq.p4 hP) (by first | exact Nat.succ_ne_zero _ | omega) ?_
        refine g_iload (q := 35) hx d_Mo_base_33 rfl rfl ?_
        refine g_iald (q := 36) hx d_Mo_base_35 rfl hq.g4 rfl (by omega) (by decide) hS.2.2.1 ?_
        refine g_icmp_lt (q := 39) (t := 43) hx d_Mo_base_36 rfl rfl Iff.rfl (fun h36 => ?_) (fun h36 => ?_)
        · exact absurd (z_lt0 h25 h36 (by omega)) hw
        · refine g_iconst (q := 40) (v := nI 1) hx d_Mo_base_39 rfl (by decide) ?_
          refine g_goto (q := 44) hx d_Mo_base_40 rfl ?_
          refine g_puti (q := 47) hx d_Mo_base_44 rfl fl_Mo_46 nf_7_0 hq.g0 ?_
          refine g_aload_n (q := 48) hx d_Mo_base_47 rfl rfl ?_
          refine g_geti (q := 51) hx d_Mo_base_48 rfl fl_Mo_46 hq.g0 (zi_s _ _ _ _) ?_
          refine g_if_le (q := 54) (t := 56) hx d_Mo_base_51 rfl rfl (zb_le0 (by omega)) (fun h51 => ?_) (fun h51 => ?_)
          · exact absurd h51 (by omega)
          · refine g_iconst (q := 55) (v := nI 0) hx d_Mo_base_54 rfl (by decide) ?_
            exact g_iret hx d_Mo_base_55 rfl hQ ⟨Nat.le_refl _, Nat.le_refl _⟩ ⟨_, rfl, rfl, rfl, rfl⟩
  · obtain rfl : 24 + u = r := by rw [if_neg h1] at hre; exact hre
    refine g_bipush (q := 6) (v := nI 24) hx d_Mo_base_4 rfl (by decide) ?_
    refine g_iload_n (q := 7) hx d_Mo_base_6 rfl rfl ?_
    refine g_iadd (q := 8) hx d_Mo_base_7 rfl (nI_add _ _) ?_
    refine g_goto (q := 12) hx d_Mo_base_8 rfl ?_
    refine g_istore (q := 14) (lc' := [(4, _), (0, _), (1, _), (2, _), (3, _)]) hx d_Mo_base_12 rfl (by decide) rfl ?_
    refine g_aload_n (q := 15) hx d_Mo_base_14 rfl rfl ?_
    refine g_aload_n (q := 16) hx d_Mo_base_15 rfl rfl ?_
    refine g_iload_n (q := 17) hx d_Mo_base_16 rfl rfl ?_
    refine g_iload_n (q := 18) hx d_Mo_base_17 rfl rfl ?_
    refine g_ci (q := 21) (zrunV hx d_Mo_base_18 lk_Mo_78 rfl rfl hq.g0 rfl rfl (Nat.le_of_ble_eq_true rfl) (by decide) (by omega) (by omega) (c_Mo_noRead _ E Γ n _ m len c g k size ref arch fs hs ur (by rw [hP]; exact hq) hI (nI u) z)) rfl (fun r18 M1 p18 => ?_)
    obtain ⟨rfl, p18⟩ := p18
    obtain rfl : r18 = nI 0 := (p18.resolve_left (fun q => q.2 ⟨u, hu, rfl⟩)).1
    refine g_if_ne (q := 24) (t := 39) hx d_Mo_base_21 rfl rfl (zb_ne0 (by omega)) (fun h21 => ?_) (fun h21 => ?_)
    · exact absurd h21 (by omega)
    · refine g_iload_n (q := 25) hx d_Mo_base_24 rfl rfl ?_
      refine g_if_lt (q := 28) (t := 39) hx d_Mo_base_25 rfl rfl Iff.rfl (fun h25 => ?_) (fun h25 => ?_)
      · refine g_iconst (q := 40) (v := nI 1) hx d_Mo_base_39 rfl (by decide) ?_
        refine g_goto (q := 44) hx d_Mo_base_40 rfl ?_
        refine g_puti (q := 47) hx d_Mo_base_44 rfl fl_Mo_46 nf_7_0 hq.g0 ?_
        refine g_aload_n (q := 48) hx d_Mo_base_47 rfl rfl ?_
        refine g_geti (q := 51) hx d_Mo_base_48 rfl fl_Mo_46 hq.g0 (zi_s _ _ _ _) ?_
        refine g_if_le (q := 54) (t := 56) hx d_Mo_base_51 rfl rfl (zb_le0 (by omega)) (fun h51 => ?_) (fun h51 => ?_)
        · exact absurd h51 (by omega)
        · refine g_iconst (q := 55) (v := nI 0) hx d_Mo_base_54 rfl (by decide) ?_
          exact g_iret hx d_Mo_base_55 rfl hQ ⟨Nat.le_refl _, Nat.le_refl _⟩ ⟨_, rfl, rfl, rfl, rfl⟩
      · refine g_iload_n (q := 29) hx d_Mo_base_28 rfl rfl ?_
        refine g_aload_n (q := 30) hx d_Mo_base_29 rfl rfl ?_
        refine g_geta (q := 33) hx d_Mo_base_30 rfl fl_Mo_19 hq.g0 (hq.p4 hP) (by first | exact Nat.succ_ne_zero _ | omega) ?_
        refine g_iload (q := 35) hx d_Mo_base_33 rfl rfl ?_
        refine g_iald (q := 36) hx d_Mo_base_35 rfl hq.g4 rfl (by omega) (by decide) hS.2.2.1 ?_
        refine g_icmp_lt (q := 39) (t := 43) hx d_Mo_base_36 rfl rfl Iff.rfl (fun h36 => ?_) (fun h36 => ?_)
        · exact absurd (z_lt0 h25 h36 (by omega)) hw
        · refine g_iconst (q := 40) (v := nI 1) hx d_Mo_base_39 rfl (by decide) ?_
          refine g_goto (q := 44) hx d_Mo_base_40 rfl ?_
          refine g_puti (q := 47) hx d_Mo_base_44 rfl fl_Mo_46 nf_7_0 hq.g0 ?_
          refine g_aload_n (q := 48) hx d_Mo_base_47 rfl rfl ?_
          refine g_geti (q := 51) hx d_Mo_base_48 rfl fl_Mo_46 hq.g0 (zi_s _ _ _ _) ?_
          refine g_if_le (q := 54) (t := 56) hx d_Mo_base_51 rfl rfl (zb_le0 (by omega)) (fun h51 => ?_) (fun h51 => ?_)
          · exact absurd h51 (by omega)
          · refine g_iconst (q := 55) (v := nI 0) hx d_Mo_base_54 rfl (by decide) ?_
            exact g_iret hx d_Mo_base_55 rfl hQ ⟨Nat.le_refl _, Nat.le_refl _⟩ ⟨_, rfl, rfl, rfl, rfl⟩
theorem mAl {ref : Nat → Nat} {len at_ : Nat} {e : Nat × Nat} {es : List (Nat × Nat)} (ha : at_ ≤ len) (h : mFits ref len at_ (e :: es)) : at_ + mAdv e ≤ len := by
  have h1 := mFits_len [e] at_ ha ⟨h.1, trivial⟩
  have h2 : mPs [e] = mAdv e := by simp [mPs]
  omega
set_option maxHeartbeats 4000000 in
set_option maxRecDepth 100000 in
theorem c_Mo_base0 (l : Launch) (E : zE) (Γ : zG) (n : Nat) (M : zM) (m : Nat) (len c g k size : Nat) (ref arch : Nat → Nat) (fs hs : Nat → mRd) (ur : mRd) (hq : qX Γ M.2.2 m) (hI : qI M m len c g k size ref arch fs hs ur) (z : Int32) (u : Nat) (rd : mRd) (hrd : rd = if z = 0 then fs u else hs u) (hu : u < (if z = 0 then c else k)) (w : Nat) (hw : w < mBc rd.2) : zCt l E Y_Mo_base 1 (0, 0) [.ref m, .int (nI u), .int (nI w), .int z] Γ n M (zPi Γ n (fun v M' => v = nI (mBase ref rd.1 rd.2 w) ∧ M' = zsi M m 0 (nI 0))) := by
  refine zCt.of [(0, .ref m), (1, .int (nI u)), (2, .int (nI w)), (3, .int z)] (by decide) (Nat.le_of_ble_eq_true rfl) rfl (fun f hfl hx hQ => ?_)
  obtain ⟨P, hP⟩ : ∃ P, M.2.2 = P := ⟨_, rfl⟩
  rw [hP] at hq
  have hm0 := hq.m0
  have hc24 := hI.2.1.2
  have hk3 := hI.2.2.1.2
  have hS : qS M m (if z = 0 then u else 24 + u) rd ∧ mOk ref len rd := by
    rw [hrd]
    by_cases e : z = 0
    · rw [if_pos e, if_pos e]; rw [if_pos e] at hu; exact hI.2.2.2.2.1 u hu
    · rw [if_neg e, if_neg e]; rw [if_neg e] at hu; exact hI.2.2.2.2.2.1 u hu
  obtain ⟨r, hre⟩ : ∃ r, (if z = 0 then u else 24 + u) = r := ⟨_, rfl⟩
  rw [hre] at hS
  have hur : r < 31 := by
    rw [← hre]; split at hu <;> split <;> omega
  obtain ⟨hS, hok⟩ := hS
  have h20 := hok.2.2.1
  have hl160 := hI.1.2.2.1
  have h12 := hok.2.2.2
  have hS0 : qS (zsi M m 0 (nI 0)) m r rd := hS.kp (A := bN) (I := bI0) (L := bN) (kF.rf.si rfl) rfl rfl rfl rfl rfl rfl
  have loop : ∀ j : Nat, ∀ (at_ left : Nat), j ≤ rd.2.length → left < mBc (rd.2.drop j) → mFits ref len at_ (rd.2.drop j) → at_ ≤ len → mBase ref at_ (rd.2.drop j) left = mBase ref rd.1 rd.2 w → zGo f E Γ n (0, 0) (zsi M m 0 (nI 0)) 78 [(8, .int (nI 0)), (7, .int (nI (12 * r + j))), (6, .int (nI left)), (5, .int (nI at_)), (4, .int (nI r)), (0, .ref m), (1, .int (nI u)), (2, .int (nI w)), (3, .int z)] [] := by
    refine z_loop (fun j => rd.2.length - j) _ ?_
    intro j ih at_ left hj hlt hfi hal0 hF
    have hjl : j < rd.2.length := by
      rcases Nat.lt_or_ge j rd.2.length with h | h
      · exact h
      · rw [List.drop_eq_nil_of_le h] at hlt; exact absurd hlt (Nat.not_lt_zero _)
    have hdr := m_drop (es := rd.2) (i := j) hjl
    have q5j := hS0.2.2.2.2 j hjl
    generalize mK rd.2 j = kd at hdr q5j
    generalize mV rd.2 j = v at hdr q5j
    rw [hdr] at hlt hfi hF
    have hk4 : kd < 4 := mFit_kind hfi.1
    have hal := mAl hal0 hfi
    have hff := hfi.1
    unfold mFit at hff
    dsimp only at hff
    have hbc1 : mBc (rd.2.drop j) ≤ 20 := by
      have h9 := List.take_append_drop j rd.2
      have h8 : mBc rd.2 = mBc (rd.2.take j) + mBc (rd.2.drop j) := by rw [← mBc_app, h9]
      omega
    rw [hdr] at hbc1
    refine g_iload (q := 80) hx d_Mo_base_78 rfl rfl ?_
    refine g_if_ne (q := 83) (t := 199) hx d_Mo_base_80 rfl rfl (zb_ne0 (by omega)) (fun h80 => ?_) (fun h80 => ?_)
    · exact absurd h80 (by omega)
    · obtain rfl | rfl | rfl | rfl : kd = 0 ∨ kd = 1 ∨ kd = 2 ∨ kd = 3 := by omega
      · refine g_aload_n (q := 84) hx d_Mo_base_83 rfl rfl ?_
        refine g_geta (q := 87) hx d_Mo_base_84 rfl fl_Mo_25 hq.g0 (hq.p6 hP) (by first | exact Nat.succ_ne_zero _ | omega) ?_
        refine g_iload (q := 89) hx d_Mo_base_87 rfl rfl ?_
        refine g_iald (q := 90) hx d_Mo_base_89 rfl hq.g6 rfl (by omega) (by decide) q5j.1 ?_
        refine g_if_ne (q := 93) (t := 103) hx d_Mo_base_90 rfl rfl (zb_ne0 (by omega)) (fun h90 => ?_) (fun h90 => ?_)
        · exact absurd h90 (by omega)
        · refine g_aload_n (q := 94) hx d_Mo_base_93 rfl rfl ?_
          refine g_geta (q := 97) hx d_Mo_base_94 rfl fl_Mo_28 hq.g0 (hq.p7 hP) (by first | exact Nat.succ_ne_zero _ | omega) ?_
          refine g_iload (q := 99) hx d_Mo_base_97 rfl rfl ?_
          refine g_iald (q := 100) hx d_Mo_base_99 rfl hq.g7 rfl (by omega) (by decide) q5j.2 ?_
          refine g_goto (q := 119) hx d_Mo_base_100 rfl ?_
          refine g_istore (q := 121) (lc' := [(9, _), (8, _), (7, _), (6, _), (5, _), (4, _), (0, _), (1, _), (2, _), (3, _)]) hx d_Mo_base_119 rfl (by decide) rfl ?_
          refine g_iload (q := 123) hx d_Mo_base_121 rfl rfl ?_
          refine g_iload (q := 125) hx d_Mo_base_123 rfl rfl ?_
          refine g_icmp_ge (q := 128) (t := 132) hx d_Mo_base_125 rfl rfl (nI_leI (by omega) (by omega)) (fun h125 => ?_) (fun h125 => ?_)
          · refine g_iconst (q := 133) (v := nI 0) hx d_Mo_base_132 rfl (by decide) ?_
            refine g_istore (q := 135) (lc' := [(8, _), (9, _), (7, _), (6, _), (5, _), (4, _), (0, _), (1, _), (2, _), (3, _)]) hx d_Mo_base_133 rfl (by decide) rfl ?_
            refine g_iload (q := 137) hx d_Mo_base_135 rfl rfl ?_
            refine g_if_ne (q := 140) (t := 196) hx d_Mo_base_137 rfl rfl (zb_ne0 (by omega)) (fun h137 => ?_) (fun h137 => ?_)
            · exact absurd h137 (by omega)
            · refine g_iload (q := 142) hx d_Mo_base_140 rfl rfl ?_
              refine g_iload (q := 144) hx d_Mo_base_142 rfl rfl ?_
              refine g_isub (q := 145) hx d_Mo_base_144 rfl (pk_sub (by omega)) ?_
              refine g_istore (q := 147) (lc' := [(6, _), (8, _), (9, _), (7, _), (5, _), (4, _), (0, _), (1, _), (2, _), (3, _)]) hx d_Mo_base_145 rfl (by decide) rfl ?_
              refine g_aload_n (q := 148) hx d_Mo_base_147 rfl rfl ?_
              refine g_geta (q := 151) hx d_Mo_base_148 rfl fl_Mo_25 hq.g0 (hq.p6 hP) (by first | exact Nat.succ_ne_zero _ | omega) ?_
              refine g_iload (q := 153) hx d_Mo_base_151 rfl rfl ?_
              refine g_iald (q := 154) hx d_Mo_base_153 rfl hq.g6 rfl (by omega) (by decide) q5j.1 ?_
              refine g_iconst (q := 155) (v := nI 2) hx d_Mo_base_154 rfl (by decide) ?_
              refine g_icmp_ne (q := 158) (t := 163) hx d_Mo_base_155 rfl rfl (not_congr (nI_eq (by omega) (by omega))) (fun h155 => ?_) (fun h155 => ?_)
              · refine g_aload_n (q := 164) hx d_Mo_base_163 rfl rfl ?_
                refine g_geta (q := 167) hx d_Mo_base_164 rfl fl_Mo_25 hq.g0 (hq.p6 hP) (by first | exact Nat.succ_ne_zero _ | omega) ?_
                refine g_iload (q := 169) hx d_Mo_base_167 rfl rfl ?_
                refine g_iald (q := 170) hx d_Mo_base_169 rfl hq.g6 rfl (by omega) (by decide) q5j.1 ?_
                refine g_iconst (q := 171) (v := nI 1) hx d_Mo_base_170 rfl (by decide) ?_
                refine g_icmp_ne (q := 174) (t := 181) hx d_Mo_base_171 rfl rfl (not_congr (nI_eq (by omega) (by omega))) (fun h171 => ?_) (fun h171 => ?_)
                · refine g_iload (q := 183) hx d_Mo_base_181 rfl rfl ?_
                  refine g_aload_n (q := 184) hx d_Mo_base_183 rfl rfl ?_
                  refine g_geta (q := 187) hx d_Mo_base_184 rfl fl_Mo_28 hq.g0 (hq.p7 hP) (by first | exact Nat.succ_ne_zero _ | omega) ?_
                  refine g_iload (q := 189) hx d_Mo_base_187 rfl rfl ?_
                  refine g_iald (q := 190) hx d_Mo_base_189 rfl hq.g7 rfl (by omega) (by decide) q5j.2 ?_
                  refine g_iadd (q := 191) hx d_Mo_base_190 rfl (nI_add _ _) ?_
                  refine g_istore (q := 193) (lc' := [(5, _), (6, _), (8, _), (9, _), (7, _), (4, _), (0, _), (1, _), (2, _), (3, _)]) hx d_Mo_base_191 rfl (by decide) rfl ?_
                  refine g_iinc (q := 196) (lc' := [(7, _), (5, _), (6, _), (8, _), (9, _), (4, _), (0, _), (1, _), (2, _), (3, _)]) hx d_Mo_base_193 rfl rfl (z_inc _) (by decide) rfl ?_
                  refine g_goto (q := 78) hx d_Mo_base_196 rfl ?_
                  refine z_perm (lc' := [(8, .int (nI 0)), (7, .int (nI (12 * r + j + 1))), (6, .int (nI (left - v))), (5, .int (nI (at_ + v))), (4, .int (nI r)), (0, .ref m), (1, .int (nI u)), (2, .int (nI w)), (3, .int z)]) (fun q hq => by simp only [List.mem_cons, List.not_mem_nil, or_false] at hq ⊢; rcases hq with h | h | h | h | h | h | h | h | h <;> simp [h]) ?_
                  exact ih (j + 1) (by omega) _ _ (by omega) (by have h9 := hlt; simp only [mBc] at h9; rw [show mCnt (0, v) = v from rfl] at h9; omega) (by simpa [mAdv] using hfi.2) (by have h9 := hal; rw [show mAdv (0, v) = v from rfl] at h9; exact h9) (by rw [← hF]; simp only [mBase]; rw [if_neg (by rw [show mCnt (0, v) = v from rfl]; omega)]; rfl)
                · exact absurd h171 (by omega)
              · exact absurd h155 (by omega)
          · refine g_iconst (q := 129) (v := nI 1) hx d_Mo_base_128 rfl (by decide) ?_
            refine g_goto (q := 133) hx d_Mo_base_129 rfl ?_
            refine g_istore (q := 135) (lc' := [(8, _), (9, _), (7, _), (6, _), (5, _), (4, _), (0, _), (1, _), (2, _), (3, _)]) hx d_Mo_base_133 rfl (by decide) rfl ?_
            refine g_iload (q := 137) hx d_Mo_base_135 rfl rfl ?_
            refine g_if_ne (q := 140) (t := 196) hx d_Mo_base_137 rfl rfl (zb_ne0 (by omega)) (fun h137 => ?_) (fun h137 => ?_)
            · refine g_goto (q := 78) hx d_Mo_base_196 rfl ?_
              refine g_iload (q := 80) hx d_Mo_base_78 rfl rfl ?_
              refine g_if_ne (q := 83) (t := 199) hx d_Mo_base_80 rfl rfl (zb_ne0 (by omega)) (fun h80 => ?_) (fun h80 => ?_)
              · refine g_aload_n (q := 200) hx d_Mo_base_199 rfl rfl ?_
                refine g_geta (q := 203) hx d_Mo_base_200 rfl fl_Mo_25 hq.g0 (hq.p6 hP) (by first | exact Nat.succ_ne_zero _ | omega) ?_
                refine g_iload (q := 205) hx d_Mo_base_203 rfl rfl ?_
                refine g_iald (q := 206) hx d_Mo_base_205 rfl hq.g6 rfl (by omega) (by decide) q5j.1 ?_
                refine g_if_ne (q := 209) (t := 222) hx d_Mo_base_206 rfl rfl (zb_ne0 (by omega)) (fun h206 => ?_) (fun h206 => ?_)
                · exact absurd h206 (by omega)
                · refine g_aload_n (q := 210) hx d_Mo_base_209 rfl rfl ?_
                  refine g_geta (q := 213) hx d_Mo_base_210 rfl fl_Mo_7 hq.g0 (hq.p1 hP) (by first | exact Nat.succ_ne_zero _ | omega) ?_
                  refine g_iload (q := 215) hx d_Mo_base_213 rfl rfl ?_
                  refine g_iload (q := 217) hx d_Mo_base_215 rfl rfl ?_
                  refine g_iadd (q := 218) hx d_Mo_base_217 rfl (nI_add _ _) ?_
                  refine g_iald (q := 219) hx d_Mo_base_218 rfl hq.g1 rfl (by omega) (by decide) ((zi_a (by omega)).trans (hI.1.2.1 _ (by omega))) ?_
                  refine g_goto (q := 229) hx d_Mo_base_219 rfl ?_
                  exact g_iret hx d_Mo_base_229 rfl hQ ⟨Nat.le_refl _, Nat.le_refl _⟩ ⟨_, rfl, rfl, rfl, by rw [← hF]; simp only [mBase]; rw [if_pos (by rw [show mCnt (0, v) = v from rfl]; omega)]; rfl, rfl⟩
              · exact absurd h80 (by omega)
            · exact absurd h137 (by omega)
      · refine g_aload_n (q := 84) hx d_Mo_base_83 rfl rfl ?_
        refine g_geta (q := 87) hx d_Mo_base_84 rfl fl_Mo_25 hq.g0 (hq.p6 hP) (by first | exact Nat.succ_ne_zero _ | omega) ?_
        refine g_iload (q := 89) hx d_Mo_base_87 rfl rfl ?_
        refine g_iald (q := 90) hx d_Mo_base_89 rfl hq.g6 rfl (by omega) (by decide) q5j.1 ?_
        refine g_if_ne (q := 93) (t := 103) hx d_Mo_base_90 rfl rfl (zb_ne0 (by omega)) (fun h90 => ?_) (fun h90 => ?_)
        · refine g_aload_n (q := 104) hx d_Mo_base_103 rfl rfl ?_
          refine g_geta (q := 107) hx d_Mo_base_104 rfl fl_Mo_25 hq.g0 (hq.p6 hP) (by first | exact Nat.succ_ne_zero _ | omega) ?_
          refine g_iload (q := 109) hx d_Mo_base_107 rfl rfl ?_
          refine g_iald (q := 110) hx d_Mo_base_109 rfl hq.g6 rfl (by omega) (by decide) q5j.1 ?_
          refine g_iconst (q := 111) (v := nI 3) hx d_Mo_base_110 rfl (by decide) ?_
          refine g_icmp_ne (q := 114) (t := 118) hx d_Mo_base_111 rfl rfl (not_congr (nI_eq (by omega) (by omega))) (fun h111 => ?_) (fun h111 => ?_)
          · refine g_iconst (q := 119) (v := nI 1) hx d_Mo_base_118 rfl (by decide) ?_
            refine g_istore (q := 121) (lc' := [(9, _), (8, _), (7, _), (6, _), (5, _), (4, _), (0, _), (1, _), (2, _), (3, _)]) hx d_Mo_base_119 rfl (by decide) rfl ?_
            refine g_iload (q := 123) hx d_Mo_base_121 rfl rfl ?_
            refine g_iload (q := 125) hx d_Mo_base_123 rfl rfl ?_
            refine g_icmp_ge (q := 128) (t := 132) hx d_Mo_base_125 rfl rfl (nI_leI (by omega) (by omega)) (fun h125 => ?_) (fun h125 => ?_)
            · refine g_iconst (q := 133) (v := nI 0) hx d_Mo_base_132 rfl (by decide) ?_
              refine g_istore (q := 135) (lc' := [(8, _), (9, _), (7, _), (6, _), (5, _), (4, _), (0, _), (1, _), (2, _), (3, _)]) hx d_Mo_base_133 rfl (by decide) rfl ?_
              refine g_iload (q := 137) hx d_Mo_base_135 rfl rfl ?_
              refine g_if_ne (q := 140) (t := 196) hx d_Mo_base_137 rfl rfl (zb_ne0 (by omega)) (fun h137 => ?_) (fun h137 => ?_)
              · exact absurd h137 (by omega)
              · refine g_iload (q := 142) hx d_Mo_base_140 rfl rfl ?_
                refine g_iload (q := 144) hx d_Mo_base_142 rfl rfl ?_
                refine g_isub (q := 145) hx d_Mo_base_144 rfl (pk_sub (by omega)) ?_
                refine g_istore (q := 147) (lc' := [(6, _), (8, _), (9, _), (7, _), (5, _), (4, _), (0, _), (1, _), (2, _), (3, _)]) hx d_Mo_base_145 rfl (by decide) rfl ?_
                refine g_aload_n (q := 148) hx d_Mo_base_147 rfl rfl ?_
                refine g_geta (q := 151) hx d_Mo_base_148 rfl fl_Mo_25 hq.g0 (hq.p6 hP) (by first | exact Nat.succ_ne_zero _ | omega) ?_
                refine g_iload (q := 153) hx d_Mo_base_151 rfl rfl ?_
                refine g_iald (q := 154) hx d_Mo_base_153 rfl hq.g6 rfl (by omega) (by decide) q5j.1 ?_
                refine g_iconst (q := 155) (v := nI 2) hx d_Mo_base_154 rfl (by decide) ?_
                refine g_icmp_ne (q := 158) (t := 163) hx d_Mo_base_155 rfl rfl (not_congr (nI_eq (by omega) (by omega))) (fun h155 => ?_) (fun h155 => ?_)
                · refine g_aload_n (q := 164) hx d_Mo_base_163 rfl rfl ?_
                  refine g_geta (q := 167) hx d_Mo_base_164 rfl fl_Mo_25 hq.g0 (hq.p6 hP) (by first | exact Nat.succ_ne_zero _ | omega) ?_
                  refine g_iload (q := 169) hx d_Mo_base_167 rfl rfl ?_
                  refine g_iald (q := 170) hx d_Mo_base_169 rfl hq.g6 rfl (by omega) (by decide) q5j.1 ?_
                  refine g_iconst (q := 171) (v := nI 1) hx d_Mo_base_170 rfl (by decide) ?_
                  refine g_icmp_ne (q := 174) (t := 181) hx d_Mo_base_171 rfl rfl (not_congr (nI_eq (by omega) (by omega))) (fun h171 => ?_) (fun h171 => ?_)
                  · exact absurd h171 (by omega)
                  · refine g_iload (q := 176) hx d_Mo_base_174 rfl rfl ?_
                    refine g_iconst (q := 177) (v := nI 1) hx d_Mo_base_176 rfl (by decide) ?_
                    refine g_iadd (q := 178) hx d_Mo_base_177 rfl (nI_add _ _) ?_
                    refine g_goto (q := 191) hx d_Mo_base_178 rfl ?_
                    refine g_istore (q := 193) (lc' := [(5, _), (6, _), (8, _), (9, _), (7, _), (4, _), (0, _), (1, _), (2, _), (3, _)]) hx d_Mo_base_191 rfl (by decide) rfl ?_
                    refine g_iinc (q := 196) (lc' := [(7, _), (5, _), (6, _), (8, _), (9, _), (4, _), (0, _), (1, _), (2, _), (3, _)]) hx d_Mo_base_193 rfl rfl (z_inc _) (by decide) rfl ?_
                    refine g_goto (q := 78) hx d_Mo_base_196 rfl ?_
                    refine z_perm (lc' := [(8, .int (nI 0)), (7, .int (nI (12 * r + j + 1))), (6, .int (nI (left - 1))), (5, .int (nI (at_ + 1))), (4, .int (nI r)), (0, .ref m), (1, .int (nI u)), (2, .int (nI w)), (3, .int z)]) (fun q hq => by simp only [List.mem_cons, List.not_mem_nil, or_false] at hq ⊢; rcases hq with h | h | h | h | h | h | h | h | h <;> simp [h]) ?_
                    exact ih (j + 1) (by omega) _ _ (by omega) (by have h9 := hlt; simp only [mBc] at h9; rw [show mCnt (1, v) = 1 from rfl] at h9; omega) (by simpa [mAdv] using hfi.2) (by have h9 := hal; rw [show mAdv (1, v) = 1 from rfl] at h9; exact h9) (by rw [← hF]; simp only [mBase]; rw [if_neg (by rw [show mCnt (1, v) = 1 from rfl]; omega)]; rfl)
                · exact absurd h155 (by omega)
            · refine g_iconst (q := 129) (v := nI 1) hx d_Mo_base_128 rfl (by decide) ?_
              refine g_goto (q := 133) hx d_Mo_base_129 rfl ?_
              refine g_istore (q := 135) (lc' := [(8, _), (9, _), (7, _), (6, _), (5, _), (4, _), (0, _), (1, _), (2, _), (3, _)]) hx d_Mo_base_133 rfl (by decide) rfl ?_
              refine g_iload (q := 137) hx d_Mo_base_135 rfl rfl ?_
              refine g_if_ne (q := 140) (t := 196) hx d_Mo_base_137 rfl rfl (zb_ne0 (by omega)) (fun h137 => ?_) (fun h137 => ?_)
              · refine g_goto (q := 78) hx d_Mo_base_196 rfl ?_
                refine g_iload (q := 80) hx d_Mo_base_78 rfl rfl ?_
                refine g_if_ne (q := 83) (t := 199) hx d_Mo_base_80 rfl rfl (zb_ne0 (by omega)) (fun h80 => ?_) (fun h80 => ?_)
                · refine g_aload_n (q := 200) hx d_Mo_base_199 rfl rfl ?_
                  refine g_geta (q := 203) hx d_Mo_base_200 rfl fl_Mo_25 hq.g0 (hq.p6 hP) (by first | exact Nat.succ_ne_zero _ | omega) ?_
                  refine g_iload (q := 205) hx d_Mo_base_203 rfl rfl ?_
                  refine g_iald (q := 206) hx d_Mo_base_205 rfl hq.g6 rfl (by omega) (by decide) q5j.1 ?_
                  refine g_if_ne (q := 209) (t := 222) hx d_Mo_base_206 rfl rfl (zb_ne0 (by omega)) (fun h206 => ?_) (fun h206 => ?_)
                  · refine g_aload_n (q := 223) hx d_Mo_base_222 rfl rfl ?_
                    refine g_geta (q := 226) hx d_Mo_base_223 rfl fl_Mo_28 hq.g0 (hq.p7 hP) (by first | exact Nat.succ_ne_zero _ | omega) ?_
                    refine g_iload (q := 228) hx d_Mo_base_226 rfl rfl ?_
                    refine g_iald (q := 229) hx d_Mo_base_228 rfl hq.g7 rfl (by omega) (by decide) q5j.2 ?_
                    exact g_iret hx d_Mo_base_229 rfl hQ ⟨Nat.le_refl _, Nat.le_refl _⟩ ⟨_, rfl, rfl, rfl, by rw [← hF]; simp only [mBase]; rw [if_pos (by rw [show mCnt (1, v) = 1 from rfl]; omega)]; rfl, rfl⟩
                  · exact absurd h206 (by omega)
                · exact absurd h80 (by omega)
              · exact absurd h137 (by omega)
          · exact absurd h111 (by omega)
        · exact absurd h90 (by omega)
      · refine g_aload_n (q := 84) hx d_Mo_base_83 rfl rfl ?_
        refine g_geta (q := 87) hx d_Mo_base_84 rfl fl_Mo_25 hq.g0 (hq.p6 hP) (by first | exact Nat.succ_ne_zero _ | omega) ?_
        refine g_iload (q := 89) hx d_Mo_base_87 rfl rfl ?_
        refine g_iald (q := 90) hx d_Mo_base_89 rfl hq.g6 rfl (by omega) (by decide) q5j.1 ?_
        refine g_if_ne (q := 93) (t := 103) hx d_Mo_base_90 rfl rfl (zb_ne0 (by omega)) (fun h90 => ?_) (fun h90 => ?_)
        · refine g_aload_n (q := 104) hx d_Mo_base_103 rfl rfl ?_
          refine g_geta (q := 107) hx d_Mo_base_104 rfl fl_Mo_25 hq.g0 (hq.p6 hP) (by first | exact Nat.succ_ne_zero _ | omega) ?_
          refine g_iload (q := 109) hx d_Mo_base_107 rfl rfl ?_
          refine g_iald (q := 110) hx d_Mo_base_109 rfl hq.g6 rfl (by omega) (by decide) q5j.1 ?_
          refine g_iconst (q := 111) (v := nI 3) hx d_Mo_base_110 rfl (by decide) ?_
          refine g_icmp_ne (q := 114) (t := 118) hx d_Mo_base_111 rfl rfl (not_congr (nI_eq (by omega) (by omega))) (fun h111 => ?_) (fun h111 => ?_)
          · refine g_iconst (q := 119) (v := nI 1) hx d_Mo_base_118 rfl (by decide) ?_
            refine g_istore (q := 121) (lc' := [(9, _), (8, _), (7, _), (6, _), (5, _), (4, _), (0, _), (1, _), (2, _), (3, _)]) hx d_Mo_base_119 rfl (by decide) rfl ?_
            refine g_iload (q := 123) hx d_Mo_base_121 rfl rfl ?_
            refine g_iload (q := 125) hx d_Mo_base_123 rfl rfl ?_
            refine g_icmp_ge (q := 128) (t := 132) hx d_Mo_base_125 rfl rfl (nI_leI (by omega) (by omega)) (fun h125 => ?_) (fun h125 => ?_)
            · refine g_iconst (q := 133) (v := nI 0) hx d_Mo_base_132 rfl (by decide) ?_
              refine g_istore (q := 135) (lc' := [(8, _), (9, _), (7, _), (6, _), (5, _), (4, _), (0, _), (1, _), (2, _), (3, _)]) hx d_Mo_base_133 rfl (by decide) rfl ?_
              refine g_iload (q := 137) hx d_Mo_base_135 rfl rfl ?_
              refine g_if_ne (q := 140) (t := 196) hx d_Mo_base_137 rfl rfl (zb_ne0 (by omega)) (fun h137 => ?_) (fun h137 => ?_)
              · exact absurd h137 (by omega)
              · refine g_iload (q := 142) hx d_Mo_base_140 rfl rfl ?_
                refine g_iload (q := 144) hx d_Mo_base_142 rfl rfl ?_
                refine g_isub (q := 145) hx d_Mo_base_144 rfl (pk_sub (by omega)) ?_
                refine g_istore (q := 147) (lc' := [(6, _), (8, _), (9, _), (7, _), (5, _), (4, _), (0, _), (1, _), (2, _), (3, _)]) hx d_Mo_base_145 rfl (by decide) rfl ?_
                refine g_aload_n (q := 148) hx d_Mo_base_147 rfl rfl ?_
                refine g_geta (q := 151) hx d_Mo_base_148 rfl fl_Mo_25 hq.g0 (hq.p6 hP) (by first | exact Nat.succ_ne_zero _ | omega) ?_
                refine g_iload (q := 153) hx d_Mo_base_151 rfl rfl ?_
                refine g_iald (q := 154) hx d_Mo_base_153 rfl hq.g6 rfl (by omega) (by decide) q5j.1 ?_
                refine g_iconst (q := 155) (v := nI 2) hx d_Mo_base_154 rfl (by decide) ?_
                refine g_icmp_ne (q := 158) (t := 163) hx d_Mo_base_155 rfl rfl (not_congr (nI_eq (by omega) (by omega))) (fun h155 => ?_) (fun h155 => ?_)
                · exact absurd h155 (by omega)
                · refine g_iload (q := 160) hx d_Mo_base_158 rfl rfl ?_
                  refine g_goto (q := 191) hx d_Mo_base_160 rfl ?_
                  refine g_istore (q := 193) (lc' := [(5, _), (6, _), (8, _), (9, _), (7, _), (4, _), (0, _), (1, _), (2, _), (3, _)]) hx d_Mo_base_191 rfl (by decide) rfl ?_
                  refine g_iinc (q := 196) (lc' := [(7, _), (5, _), (6, _), (8, _), (9, _), (4, _), (0, _), (1, _), (2, _), (3, _)]) hx d_Mo_base_193 rfl rfl (z_inc _) (by decide) rfl ?_
                  refine g_goto (q := 78) hx d_Mo_base_196 rfl ?_
                  refine z_perm (lc' := [(8, .int (nI 0)), (7, .int (nI (12 * r + j + 1))), (6, .int (nI (left - 1))), (5, .int (nI (at_))), (4, .int (nI r)), (0, .ref m), (1, .int (nI u)), (2, .int (nI w)), (3, .int z)]) (fun q hq => by simp only [List.mem_cons, List.not_mem_nil, or_false] at hq ⊢; rcases hq with h | h | h | h | h | h | h | h | h <;> simp [h]) ?_
                  exact ih (j + 1) (by omega) _ _ (by omega) (by have h9 := hlt; simp only [mBc] at h9; rw [show mCnt (2, v) = 1 from rfl] at h9; omega) (by simpa [mAdv] using hfi.2) (by have h9 := hal; rw [show mAdv (2, v) = 0 from rfl] at h9; exact h9) (by rw [← hF]; simp only [mBase]; rw [if_neg (by rw [show mCnt (2, v) = 1 from rfl]; omega)]; rfl)
            · refine g_iconst (q := 129) (v := nI 1) hx d_Mo_base_128 rfl (by decide) ?_
              refine g_goto (q := 133) hx d_Mo_base_129 rfl ?_
              refine g_istore (q := 135) (lc' := [(8, _), (9, _), (7, _), (6, _), (5, _), (4, _), (0, _), (1, _), (2, _), (3, _)]) hx d_Mo_base_133 rfl (by decide) rfl ?_
              refine g_iload (q := 137) hx d_Mo_base_135 rfl rfl ?_
              refine g_if_ne (q := 140) (t := 196) hx d_Mo_base_137 rfl rfl (zb_ne0 (by omega)) (fun h137 => ?_) (fun h137 => ?_)
              · refine g_goto (q := 78) hx d_Mo_base_196 rfl ?_
                refine g_iload (q := 80) hx d_Mo_base_78 rfl rfl ?_
                refine g_if_ne (q := 83) (t := 199) hx d_Mo_base_80 rfl rfl (zb_ne0 (by omega)) (fun h80 => ?_) (fun h80 => ?_)
                · refine g_aload_n (q := 200) hx d_Mo_base_199 rfl rfl ?_
                  refine g_geta (q := 203) hx d_Mo_base_200 rfl fl_Mo_25 hq.g0 (hq.p6 hP) (by first | exact Nat.succ_ne_zero _ | omega) ?_
                  refine g_iload (q := 205) hx d_Mo_base_203 rfl rfl ?_
                  refine g_iald (q := 206) hx d_Mo_base_205 rfl hq.g6 rfl (by omega) (by decide) q5j.1 ?_
                  refine g_if_ne (q := 209) (t := 222) hx d_Mo_base_206 rfl rfl (zb_ne0 (by omega)) (fun h206 => ?_) (fun h206 => ?_)
                  · refine g_aload_n (q := 223) hx d_Mo_base_222 rfl rfl ?_
                    refine g_geta (q := 226) hx d_Mo_base_223 rfl fl_Mo_28 hq.g0 (hq.p7 hP) (by first | exact Nat.succ_ne_zero _ | omega) ?_
                    refine g_iload (q := 228) hx d_Mo_base_226 rfl rfl ?_
                    refine g_iald (q := 229) hx d_Mo_base_228 rfl hq.g7 rfl (by omega) (by decide) q5j.2 ?_
                    exact g_iret hx d_Mo_base_229 rfl hQ ⟨Nat.le_refl _, Nat.le_refl _⟩ ⟨_, rfl, rfl, rfl, by rw [← hF]; simp only [mBase]; rw [if_pos (by rw [show mCnt (2, v) = 1 from rfl]; omega)]; rfl, rfl⟩
                  · exact absurd h206 (by omega)
                · exact absurd h80 (by omega)
              · exact absurd h137 (by omega)
          · exact absurd h111 (by omega)
        · exact absurd h90 (by omega)
      · refine g_aload_n (q := 84) hx d_Mo_base_83 rfl rfl ?_
        refine g_geta (q := 87) hx d_Mo_base_84 rfl fl_Mo_25 hq.g0 (hq.p6 hP) (by first | exact Nat.succ_ne_zero _ | omega) ?_
        refine g_iload (q := 89) hx d_Mo_base_87 rfl rfl ?_
        refine g_iald (q := 90) hx d_Mo_base_89 rfl hq.g6 rfl (by omega) (by decide) q5j.1 ?_
        refine g_if_ne (q := 93) (t := 103) hx d_Mo_base_90 rfl rfl (zb_ne0 (by omega)) (fun h90 => ?_) (fun h90 => ?_)
        · refine g_aload_n (q := 104) hx d_Mo_base_103 rfl rfl ?_
          refine g_geta (q := 107) hx d_Mo_base_104 rfl fl_Mo_25 hq.g0 (hq.p6 hP) (by first | exact Nat.succ_ne_zero _ | omega) ?_
          refine g_iload (q := 109) hx d_Mo_base_107 rfl rfl ?_
          refine g_iald (q := 110) hx d_Mo_base_109 rfl hq.g6 rfl (by omega) (by decide) q5j.1 ?_
          refine g_iconst (q := 111) (v := nI 3) hx d_Mo_base_110 rfl (by decide) ?_
          refine g_icmp_ne (q := 114) (t := 118) hx d_Mo_base_111 rfl rfl (not_congr (nI_eq (by omega) (by omega))) (fun h111 => ?_) (fun h111 => ?_)
          · exact absurd h111 (by omega)
          · refine g_iconst (q := 115) (v := nI 0) hx d_Mo_base_114 rfl (by decide) ?_
            refine g_goto (q := 119) hx d_Mo_base_115 rfl ?_
            refine g_istore (q := 121) (lc' := [(9, _), (8, _), (7, _), (6, _), (5, _), (4, _), (0, _), (1, _), (2, _), (3, _)]) hx d_Mo_base_119 rfl (by decide) rfl ?_
            refine g_iload (q := 123) hx d_Mo_base_121 rfl rfl ?_
            refine g_iload (q := 125) hx d_Mo_base_123 rfl rfl ?_
            refine g_icmp_ge (q := 128) (t := 132) hx d_Mo_base_125 rfl rfl (nI_leI (by omega) (by omega)) (fun h125 => ?_) (fun h125 => ?_)
            · refine g_iconst (q := 133) (v := nI 0) hx d_Mo_base_132 rfl (by decide) ?_
              refine g_istore (q := 135) (lc' := [(8, _), (9, _), (7, _), (6, _), (5, _), (4, _), (0, _), (1, _), (2, _), (3, _)]) hx d_Mo_base_133 rfl (by decide) rfl ?_
              refine g_iload (q := 137) hx d_Mo_base_135 rfl rfl ?_
              refine g_if_ne (q := 140) (t := 196) hx d_Mo_base_137 rfl rfl (zb_ne0 (by omega)) (fun h137 => ?_) (fun h137 => ?_)
              · exact absurd h137 (by omega)
              · refine g_iload (q := 142) hx d_Mo_base_140 rfl rfl ?_
                refine g_iload (q := 144) hx d_Mo_base_142 rfl rfl ?_
                refine g_isub (q := 145) hx d_Mo_base_144 rfl (pk_sub (by omega)) ?_
                refine g_istore (q := 147) (lc' := [(6, _), (8, _), (9, _), (7, _), (5, _), (4, _), (0, _), (1, _), (2, _), (3, _)]) hx d_Mo_base_145 rfl (by decide) rfl ?_
                refine g_aload_n (q := 148) hx d_Mo_base_147 rfl rfl ?_
                refine g_geta (q := 151) hx d_Mo_base_148 rfl fl_Mo_25 hq.g0 (hq.p6 hP) (by first | exact Nat.succ_ne_zero _ | omega) ?_
                refine g_iload (q := 153) hx d_Mo_base_151 rfl rfl ?_
                refine g_iald (q := 154) hx d_Mo_base_153 rfl hq.g6 rfl (by omega) (by decide) q5j.1 ?_
                refine g_iconst (q := 155) (v := nI 2) hx d_Mo_base_154 rfl (by decide) ?_
                refine g_icmp_ne (q := 158) (t := 163) hx d_Mo_base_155 rfl rfl (not_congr (nI_eq (by omega) (by omega))) (fun h155 => ?_) (fun h155 => ?_)
                · refine g_aload_n (q := 164) hx d_Mo_base_163 rfl rfl ?_
                  refine g_geta (q := 167) hx d_Mo_base_164 rfl fl_Mo_25 hq.g0 (hq.p6 hP) (by first | exact Nat.succ_ne_zero _ | omega) ?_
                  refine g_iload (q := 169) hx d_Mo_base_167 rfl rfl ?_
                  refine g_iald (q := 170) hx d_Mo_base_169 rfl hq.g6 rfl (by omega) (by decide) q5j.1 ?_
                  refine g_iconst (q := 171) (v := nI 1) hx d_Mo_base_170 rfl (by decide) ?_
                  refine g_icmp_ne (q := 174) (t := 181) hx d_Mo_base_171 rfl rfl (not_congr (nI_eq (by omega) (by omega))) (fun h171 => ?_) (fun h171 => ?_)
                  · refine g_iload (q := 183) hx d_Mo_base_181 rfl rfl ?_
                    refine g_aload_n (q := 184) hx d_Mo_base_183 rfl rfl ?_
                    refine g_geta (q := 187) hx d_Mo_base_184 rfl fl_Mo_28 hq.g0 (hq.p7 hP) (by first | exact Nat.succ_ne_zero _ | omega) ?_
                    refine g_iload (q := 189) hx d_Mo_base_187 rfl rfl ?_
                    refine g_iald (q := 190) hx d_Mo_base_189 rfl hq.g7 rfl (by omega) (by decide) q5j.2 ?_
                    refine g_iadd (q := 191) hx d_Mo_base_190 rfl (nI_add _ _) ?_
                    refine g_istore (q := 193) (lc' := [(5, _), (6, _), (8, _), (9, _), (7, _), (4, _), (0, _), (1, _), (2, _), (3, _)]) hx d_Mo_base_191 rfl (by decide) rfl ?_
                    refine g_iinc (q := 196) (lc' := [(7, _), (5, _), (6, _), (8, _), (9, _), (4, _), (0, _), (1, _), (2, _), (3, _)]) hx d_Mo_base_193 rfl rfl (z_inc _) (by decide) rfl ?_
                    refine g_goto (q := 78) hx d_Mo_base_196 rfl ?_
                    refine z_perm (lc' := [(8, .int (nI 0)), (7, .int (nI (12 * r + j + 1))), (6, .int (nI (left - 0))), (5, .int (nI (at_ + v))), (4, .int (nI r)), (0, .ref m), (1, .int (nI u)), (2, .int (nI w)), (3, .int z)]) (fun q hq => by simp only [List.mem_cons, List.not_mem_nil, or_false] at hq ⊢; rcases hq with h | h | h | h | h | h | h | h | h <;> simp [h]) ?_
                    exact ih (j + 1) (by omega) _ _ (by omega) (by have h9 := hlt; simp only [mBc] at h9; rw [show mCnt (3, v) = 0 from rfl] at h9; omega) (by simpa [mAdv] using hfi.2) (by have h9 := hal; rw [show mAdv (3, v) = v from rfl] at h9; exact h9) (by rw [← hF]; simp only [mBase]; rw [if_neg (by rw [show mCnt (3, v) = 0 from rfl]; omega)]; rfl)
                  · exact absurd h171 (by omega)
                · exact absurd h155 (by omega)
            · refine g_iconst (q := 129) (v := nI 1) hx d_Mo_base_128 rfl (by decide) ?_
              refine g_goto (q := 133) hx d_Mo_base_129 rfl ?_
              refine g_istore (q := 135) (lc' := [(8, _), (9, _), (7, _), (6, _), (5, _), (4, _), (0, _), (1, _), (2, _), (3, _)]) hx d_Mo_base_133 rfl (by decide) rfl ?_
              refine g_iload (q := 137) hx d_Mo_base_135 rfl rfl ?_
              refine g_if_ne (q := 140) (t := 196) hx d_Mo_base_137 rfl rfl (zb_ne0 (by omega)) (fun h137 => ?_) (fun h137 => ?_)
              · refine g_goto (q := 78) hx d_Mo_base_196 rfl ?_
                refine g_iload (q := 80) hx d_Mo_base_78 rfl rfl ?_
                refine g_if_ne (q := 83) (t := 199) hx d_Mo_base_80 rfl rfl (zb_ne0 (by omega)) (fun h80 => ?_) (fun h80 => ?_)
                · refine g_aload_n (q := 200) hx d_Mo_base_199 rfl rfl ?_
                  refine g_geta (q := 203) hx d_Mo_base_200 rfl fl_Mo_25 hq.g0 (hq.p6 hP) (by first | exact Nat.succ_ne_zero _ | omega) ?_
                  refine g_iload (q := 205) hx d_Mo_base_203 rfl rfl ?_
                  refine g_iald (q := 206) hx d_Mo_base_205 rfl hq.g6 rfl (by omega) (by decide) q5j.1 ?_
                  refine g_if_ne (q := 209) (t := 222) hx d_Mo_base_206 rfl rfl (zb_ne0 (by omega)) (fun h206 => ?_) (fun h206 => ?_)
                  · refine g_aload_n (q := 223) hx d_Mo_base_222 rfl rfl ?_
                    refine g_geta (q := 226) hx d_Mo_base_223 rfl fl_Mo_28 hq.g0 (hq.p7 hP) (by first | exact Nat.succ_ne_zero _ | omega) ?_
                    refine g_iload (q := 228) hx d_Mo_base_226 rfl rfl ?_
                    refine g_iald (q := 229) hx d_Mo_base_228 rfl hq.g7 rfl (by omega) (by decide) q5j.2 ?_
                    exact g_iret hx d_Mo_base_229 rfl hQ ⟨Nat.le_refl _, Nat.le_refl _⟩ ⟨_, rfl, rfl, rfl, by rw [← hF]; simp only [mBase]; rw [if_pos (by rw [show mCnt (3, v) = 0 from rfl]; omega)]; rfl, rfl⟩
                  · exact absurd h206 (by omega)
                · exact absurd h80 (by omega)
              · exact absurd h137 (by omega)
        · exact absurd h90 (by omega)
  refine g_iload_n (q := 1) hx d_Mo_base_0 rfl rfl ?_
  refine g_if_eq (q := 4) (t := 11) hx d_Mo_base_1 rfl rfl Iff.rfl (fun h1 => ?_) (fun h1 => ?_)
  · obtain rfl : u = r := by rw [if_pos h1] at hre; exact hre
    refine g_iload_n (q := 12) hx d_Mo_base_11 rfl rfl ?_
    refine g_istore (q := 14) (lc' := [(4, _), (0, _), (1, _), (2, _), (3, _)]) hx d_Mo_base_12 rfl (by decide) rfl ?_
    refine g_aload_n (q := 15) hx d_Mo_base_14 rfl rfl ?_
    refine g_aload_n (q := 16) hx d_Mo_base_15 rfl rfl ?_
    refine g_iload_n (q := 17) hx d_Mo_base_16 rfl rfl ?_
    refine g_iload_n (q := 18) hx d_Mo_base_17 rfl rfl ?_
    refine g_ci (q := 21) (zrunV hx d_Mo_base_18 lk_Mo_78 rfl rfl hq.g0 rfl rfl (Nat.le_of_ble_eq_true rfl) (by decide) (by omega) (by omega) (c_Mo_noRead _ E Γ n _ m len c g k size ref arch fs hs ur (by rw [hP]; exact hq) hI (nI u) z)) rfl (fun r18 M1 p18 => ?_)
    obtain ⟨rfl, p18⟩ := p18
    obtain rfl : r18 = nI 0 := (p18.resolve_left (fun q => q.2 ⟨u, hu, rfl⟩)).1
    refine g_if_ne (q := 24) (t := 39) hx d_Mo_base_21 rfl rfl (zb_ne0 (by omega)) (fun h21 => ?_) (fun h21 => ?_)
    · exact absurd h21 (by omega)
    · refine g_iload_n (q := 25) hx d_Mo_base_24 rfl rfl ?_
      refine g_if_lt (q := 28) (t := 39) hx d_Mo_base_25 rfl rfl (zb_lt0 (by omega)) (fun h25 => ?_) (fun h25 => ?_)
      · exact h25.elim
      · refine g_iload_n (q := 29) hx d_Mo_base_28 rfl rfl ?_
        refine g_aload_n (q := 30) hx d_Mo_base_29 rfl rfl ?_
        refine g_geta (q := 33) hx d_Mo_base_30 rfl fl_Mo_19 hq.g0 (hq.p4 hP) (by first | exact Nat.succ_ne_zero _ | omega) ?_
        refine g_iload (q := 35) hx d_Mo_base_33 rfl rfl ?_
        refine g_iald (q := 36) hx d_Mo_base_35 rfl hq.g4 rfl (by omega) (by decide) hS.2.2.1 ?_
        refine g_icmp_lt (q := 39) (t := 43) hx d_Mo_base_36 rfl rfl (nI_ltI (by omega) (by omega)) (fun h36 => ?_) (fun h36 => ?_)
        · refine g_iconst (q := 44) (v := nI 0) hx d_Mo_base_43 rfl (by decide) ?_
          refine g_puti (q := 47) hx d_Mo_base_44 rfl fl_Mo_46 nf_7_0 hq.g0 ?_
          refine g_aload_n (q := 48) hx d_Mo_base_47 rfl rfl ?_
          refine g_geti (q := 51) hx d_Mo_base_48 rfl fl_Mo_46 hq.g0 (zi_s _ _ _ _) ?_
          refine g_if_le (q := 54) (t := 56) hx d_Mo_base_51 rfl rfl (zb_le0 (by omega)) (fun h51 => ?_) (fun h51 => ?_)
          · refine g_aload_n (q := 57) hx d_Mo_base_56 rfl rfl ?_
            refine g_geta (q := 60) hx d_Mo_base_57 rfl fl_Mo_13 hq.g0 (hq.p2 hP) (by first | exact Nat.succ_ne_zero _ | omega) ?_
            refine g_iload (q := 62) hx d_Mo_base_60 rfl rfl ?_
            refine g_iald (q := 63) hx d_Mo_base_62 rfl hq.g2 rfl (by omega) (by decide) ((zi_a (by omega)).trans hS.1) ?_
            refine g_istore (q := 65) (lc' := [(5, _), (4, _), (0, _), (1, _), (2, _), (3, _)]) hx d_Mo_base_63 rfl (by decide) rfl ?_
            refine g_iload_n (q := 66) hx d_Mo_base_65 rfl rfl ?_
            refine g_istore (q := 68) (lc' := [(6, _), (5, _), (4, _), (0, _), (1, _), (2, _), (3, _)]) hx d_Mo_base_66 rfl (by decide) rfl ?_
            refine g_bipush (q := 70) (v := nI 12) hx d_Mo_base_68 rfl (by decide) ?_
            refine g_iload (q := 72) hx d_Mo_base_70 rfl rfl ?_
            refine g_imul (q := 73) hx d_Mo_base_72 rfl (pk_mul _ _) ?_
            refine g_istore (q := 75) (lc' := [(7, _), (6, _), (5, _), (4, _), (0, _), (1, _), (2, _), (3, _)]) hx d_Mo_base_73 rfl (by decide) rfl ?_
            refine g_iconst (q := 76) (v := nI 0) hx d_Mo_base_75 rfl (by decide) ?_
            refine g_istore (q := 78) (lc' := [(8, _), (7, _), (6, _), (5, _), (4, _), (0, _), (1, _), (2, _), (3, _)]) hx d_Mo_base_76 rfl (by decide) rfl ?_
            exact loop 0 rd.1 w (Nat.zero_le _) hw hok.2.1 hok.1 rfl
          · exact absurd h51 (by omega)
        · exact absurd (by omega) h36
  · obtain rfl : 24 + u = r := by rw [if_neg h1] at hre; exact hre
    refine g_bipush (q := 6) (v := nI 24) hx d_Mo_base_4 rfl (by decide) ?_
    refine g_iload_n (q := 7) hx d_Mo_base_6 rfl rfl ?_
    refine g_iadd (q := 8) hx d_Mo_base_7 rfl (nI_add _ _) ?_
    refine g_goto (q := 12) hx d_Mo_base_8 rfl ?_
    refine g_istore (q := 14) (lc' := [(4, _), (0, _), (1, _), (2, _), (3, _)]) hx d_Mo_base_12 rfl (by decide) rfl ?_
    refine g_aload_n (q := 15) hx d_Mo_base_14 rfl rfl ?_
    refine g_aload_n (q := 16) hx d_Mo_base_15 rfl rfl ?_
    refine g_iload_n (q := 17) hx d_Mo_base_16 rfl rfl ?_
    refine g_iload_n (q := 18) hx d_Mo_base_17 rfl rfl ?_
    refine g_ci (q := 21) (zrunV hx d_Mo_base_18 lk_Mo_78 rfl rfl hq.g0 rfl rfl (Nat.le_of_ble_eq_true rfl) (by decide) (by omega) (by omega) (c_Mo_noRead _ E Γ n _ m len c g k size ref arch fs hs ur (by rw [hP]; exact hq) hI (nI u) z)) rfl (fun r18 M1 p18 => ?_)
    obtain ⟨rfl, p18⟩ := p18
    obtain rfl : r18 = nI 0 := (p18.resolve_left (fun q => q.2 ⟨u, hu, rfl⟩)).1
    refine g_if_ne (q := 24) (t := 39) hx d_Mo_base_21 rfl rfl (zb_ne0 (by omega)) (fun h21 => ?_) (fun h21 => ?_)
    · exact absurd h21 (by omega)
    · refine g_iload_n (q := 25) hx d_Mo_base_24 rfl rfl ?_
      refine g_if_lt (q := 28) (t := 39) hx d_Mo_base_25 rfl rfl (zb_lt0 (by omega)) (fun h25 => ?_) (fun h25 => ?_)
      · exact h25.elim
      · refine g_iload_n (q := 29) hx d_Mo_base_28 rfl rfl ?_
        refine g_aload_n (q := 30) hx d_Mo_base_29 rfl rfl ?_
        refine g_geta (q := 33) hx d_Mo_base_30 rfl fl_Mo_19 hq.g0 (hq.p4 hP) (by first | exact Nat.succ_ne_zero _ | omega) ?_
        refine g_iload (q := 35) hx d_Mo_base_33 rfl rfl ?_
        refine g_iald (q := 36) hx d_Mo_base_35 rfl hq.g4 rfl (by omega) (by decide) hS.2.2.1 ?_
        refine g_icmp_lt (q := 39) (t := 43) hx d_Mo_base_36 rfl rfl (nI_ltI (by omega) (by omega)) (fun h36 => ?_) (fun h36 => ?_)
        · refine g_iconst (q := 44) (v := nI 0) hx d_Mo_base_43 rfl (by decide) ?_
          refine g_puti (q := 47) hx d_Mo_base_44 rfl fl_Mo_46 nf_7_0 hq.g0 ?_
          refine g_aload_n (q := 48) hx d_Mo_base_47 rfl rfl ?_
          refine g_geti (q := 51) hx d_Mo_base_48 rfl fl_Mo_46 hq.g0 (zi_s _ _ _ _) ?_
          refine g_if_le (q := 54) (t := 56) hx d_Mo_base_51 rfl rfl (zb_le0 (by omega)) (fun h51 => ?_) (fun h51 => ?_)
          · refine g_aload_n (q := 57) hx d_Mo_base_56 rfl rfl ?_
            refine g_geta (q := 60) hx d_Mo_base_57 rfl fl_Mo_13 hq.g0 (hq.p2 hP) (by first | exact Nat.succ_ne_zero _ | omega) ?_
            refine g_iload (q := 62) hx d_Mo_base_60 rfl rfl ?_
            refine g_iald (q := 63) hx d_Mo_base_62 rfl hq.g2 rfl (by omega) (by decide) ((zi_a (by omega)).trans hS.1) ?_
            refine g_istore (q := 65) (lc' := [(5, _), (4, _), (0, _), (1, _), (2, _), (3, _)]) hx d_Mo_base_63 rfl (by decide) rfl ?_
            refine g_iload_n (q := 66) hx d_Mo_base_65 rfl rfl ?_
            refine g_istore (q := 68) (lc' := [(6, _), (5, _), (4, _), (0, _), (1, _), (2, _), (3, _)]) hx d_Mo_base_66 rfl (by decide) rfl ?_
            refine g_bipush (q := 70) (v := nI 12) hx d_Mo_base_68 rfl (by decide) ?_
            refine g_iload (q := 72) hx d_Mo_base_70 rfl rfl ?_
            refine g_imul (q := 73) hx d_Mo_base_72 rfl (pk_mul _ _) ?_
            refine g_istore (q := 75) (lc' := [(7, _), (6, _), (5, _), (4, _), (0, _), (1, _), (2, _), (3, _)]) hx d_Mo_base_73 rfl (by decide) rfl ?_
            refine g_iconst (q := 76) (v := nI 0) hx d_Mo_base_75 rfl (by decide) ?_
            refine g_istore (q := 78) (lc' := [(8, _), (7, _), (6, _), (5, _), (4, _), (0, _), (1, _), (2, _), (3, _)]) hx d_Mo_base_76 rfl (by decide) rfl ?_
            exact loop 0 rd.1 w (Nat.zero_le _) hw hok.2.1 hok.1 rfl
          · exact absurd h51 (by omega)
        · exact absurd (by omega) h36
theorem i32_lt_le' {x : Int32} (h : x < 0) : x ≤ nI 0 := by rw [nI_0, Int32.le_iff_toInt_le]; rw [Int32.lt_iff_toInt_lt] at h; omega
theorem i32_m1 (b : Nat) (h : b < 2 ^ 31) : (-1 : Int32) < nI b := by
  rw [Int32.lt_iff_toInt_lt, nI_toInt h]
  have : (-1 : Int32).toInt = -1 := by decide
  omega
set_option maxHeartbeats 4000000 in
set_option maxRecDepth 100000 in
theorem c_Mo_beginOf (l : Launch) (E : zE) (Γ : zG) (n : Nat) (M : zM) (m : Nat) (len c g k size : Nat) (ref arch : Nat → Nat) (fs hs : Nat → mRd) (ur : mRd) (hq : qX Γ M.2.2 m) (hI : qI M m len c g k size ref arch fs hs ur) (x : Int32) : zCt l E Y_Mo_beginOf 0 (0, 0) [.ref m, .int x] Γ n M (zPi Γ n (fun v M' => M' = M ∧ ((∃ i : Nat, x = nI i ∧ mBeg arch size i < size ∧ v = nI (mBeg arch size i)) ∨ v = -1 ∧ ¬ ∃ i : Nat, i < 2 ^ 31 ∧ x = nI i ∧ mBeg arch size i < size))) := by
  refine zCt.of [(0, .ref m), (1, .int x)] (by decide) (Nat.le_of_ble_eq_true rfl) rfl (fun f hfl hx hQ => ?_)
  obtain ⟨P, hP⟩ : ∃ P, M.2.2 = P := ⟨_, rfl⟩
  rw [hP] at hq
  have hm0 := hq.m0
  have hs20 := hI.2.2.2.2.2.2.2.2.2.1
  by_cases hx0 : x < 0
  · refine g_iconst (q := 1) (v := nI 0) hx d_Mo_beginOf_0 rfl (by decide) ?_
    refine g_istore_n (q := 2) (lc' := [(2, _), (0, _), (1, _)]) hx d_Mo_beginOf_1 rfl (by decide) rfl ?_
    refine g_iconst (q := 3) (v := nI 0) hx d_Mo_beginOf_2 rfl (by decide) ?_
    refine g_istore_n (q := 4) (lc' := [(3, _), (2, _), (0, _), (1, _)]) hx d_Mo_beginOf_3 rfl (by decide) rfl ?_
    refine g_iload_n (q := 5) hx d_Mo_beginOf_4 rfl rfl ?_
    refine g_iload_n (q := 6) hx d_Mo_beginOf_5 rfl rfl ?_
    refine g_icmp_ge (q := 9) (t := 46) hx d_Mo_beginOf_6 rfl rfl Iff.rfl (fun h6 => ?_) (fun h6 => ?_)
    · refine g_iload_n (q := 47) hx d_Mo_beginOf_46 rfl rfl ?_
      refine g_if_lt (q := 50) (t := 58) hx d_Mo_beginOf_47 rfl rfl Iff.rfl (fun h47 => ?_) (fun h47 => ?_)
      · refine g_iconst (q := 59) (v := (-1)) hx d_Mo_beginOf_58 rfl (by decide) ?_
        refine g_goto (q := 63) hx d_Mo_beginOf_59 rfl ?_
        exact g_iret hx d_Mo_beginOf_63 rfl hQ ⟨Nat.le_refl _, Nat.le_refl _⟩ ⟨_, rfl, rfl, rfl, rfl, Or.inr ⟨rfl, fun ⟨i9, w1, w2, w3⟩ => (nI_pos w1 (by rw [← w2]; exact hx0)).elim⟩⟩
      · exact absurd hx0 h47
    · exact absurd (i32_lt_le' hx0) h6
  · obtain ⟨N, hN, rfl⟩ := nI_of hx0
    have bad : ∀ i : Nat, i ≤ N → size ≤ mBeg arch size i → zGo f E Γ n (0, 0) M 4 [(3, .int (nI i)), (2, .int (-1)), (0, .ref m), (1, .int (nI N))] [] := by
      intro i hi hb9
      refine g_iload_n (q := 5) hx d_Mo_beginOf_4 rfl rfl ?_
      refine g_iload_n (q := 6) hx d_Mo_beginOf_5 rfl rfl ?_
      refine g_icmp_ge (q := 9) (t := 46) hx d_Mo_beginOf_6 rfl rfl (nI_leI (by omega) (by omega)) (fun h6 => ?_) (fun h6 => ?_)
      · refine g_iload_n (q := 47) hx d_Mo_beginOf_46 rfl rfl ?_
        refine g_if_lt (q := 50) (t := 58) hx d_Mo_beginOf_47 rfl rfl (zb_lt0 (by omega)) (fun h47 => ?_) (fun h47 => ?_)
        · exact h47.elim
        · refine g_iload_n (q := 51) hx d_Mo_beginOf_50 rfl rfl ?_
          refine g_aload_n (q := 52) hx d_Mo_beginOf_51 rfl rfl ?_
          refine g_geti (q := 55) hx d_Mo_beginOf_52 rfl fl_Mo_136 hq.g0 hI.2.2.2.2.2.2.2.1 ?_
          refine g_icmp_lt (q := 58) (t := 62) hx d_Mo_beginOf_55 rfl rfl Iff.rfl (fun h55 => ?_) (fun h55 => ?_)
          · refine g_iload_n (q := 63) hx d_Mo_beginOf_62 rfl rfl ?_
            exact g_iret hx d_Mo_beginOf_63 rfl hQ ⟨Nat.le_refl _, Nat.le_refl _⟩ ⟨_, rfl, rfl, rfl, rfl, Or.inr ⟨rfl, fun ⟨i9, w1, w2, w3⟩ => by obtain rfl := (nI_eq w1 (by omega)).mp w2.symm; have := mBeg_up arch size i i9 hi; omega⟩⟩
          · exact absurd (i32_m1 _ (by omega)) h55
      · refine g_iload_n (q := 10) hx d_Mo_beginOf_9 rfl rfl ?_
        refine g_if_lt (q := 13) (t := 46) hx d_Mo_beginOf_10 rfl rfl Iff.rfl (fun h10 => ?_) (fun h10 => ?_)
        · refine g_iload_n (q := 47) hx d_Mo_beginOf_46 rfl rfl ?_
          refine g_if_lt (q := 50) (t := 58) hx d_Mo_beginOf_47 rfl rfl (zb_lt0 (by omega)) (fun h47 => ?_) (fun h47 => ?_)
          · exact h47.elim
          · refine g_iload_n (q := 51) hx d_Mo_beginOf_50 rfl rfl ?_
            refine g_aload_n (q := 52) hx d_Mo_beginOf_51 rfl rfl ?_
            refine g_geti (q := 55) hx d_Mo_beginOf_52 rfl fl_Mo_136 hq.g0 hI.2.2.2.2.2.2.2.1 ?_
            refine g_icmp_lt (q := 58) (t := 62) hx d_Mo_beginOf_55 rfl rfl Iff.rfl (fun h55 => ?_) (fun h55 => ?_)
            · refine g_iload_n (q := 63) hx d_Mo_beginOf_62 rfl rfl ?_
              exact g_iret hx d_Mo_beginOf_63 rfl hQ ⟨Nat.le_refl _, Nat.le_refl _⟩ ⟨_, rfl, rfl, rfl, rfl, Or.inr ⟨rfl, fun ⟨i9, w1, w2, w3⟩ => by obtain rfl := (nI_eq w1 (by omega)).mp w2.symm; have := mBeg_up arch size i i9 hi; omega⟩⟩
            · exact absurd (i32_m1 _ (by omega)) h55
        · exact absurd (by decide) h10
    have loop : ∀ i : Nat, i ≤ N → mBeg arch size i ≤ 3000 → zGo f E Γ n (0, 0) M 4 [(3, .int (nI i)), (2, .int (nI (mBeg arch size i))), (0, .ref m), (1, .int (nI N))] [] := by
      refine z_loop (fun i => N - i) _ ?_
      intro i ih hi hb3
      refine g_iload_n (q := 5) hx d_Mo_beginOf_4 rfl rfl ?_
      refine g_iload_n (q := 6) hx d_Mo_beginOf_5 rfl rfl ?_
      refine g_icmp_ge (q := 9) (t := 46) hx d_Mo_beginOf_6 rfl rfl (nI_leI (by omega) (by omega)) (fun h6 => ?_) (fun h6 => ?_)
      · obtain rfl : i = N := (by omega)
        refine g_iload_n (q := 47) hx d_Mo_beginOf_46 rfl rfl ?_
        refine g_if_lt (q := 50) (t := 58) hx d_Mo_beginOf_47 rfl rfl (zb_lt0 (by omega)) (fun h47 => ?_) (fun h47 => ?_)
        · exact h47.elim
        · refine g_iload_n (q := 51) hx d_Mo_beginOf_50 rfl rfl ?_
          refine g_aload_n (q := 52) hx d_Mo_beginOf_51 rfl rfl ?_
          refine g_geti (q := 55) hx d_Mo_beginOf_52 rfl fl_Mo_136 hq.g0 hI.2.2.2.2.2.2.2.1 ?_
          refine g_icmp_lt (q := 58) (t := 62) hx d_Mo_beginOf_55 rfl rfl (nI_ltI (by omega) (by omega)) (fun h55 => ?_) (fun h55 => ?_)
          · refine g_iload_n (q := 63) hx d_Mo_beginOf_62 rfl rfl ?_
            exact g_iret hx d_Mo_beginOf_63 rfl hQ ⟨Nat.le_refl _, Nat.le_refl _⟩ ⟨_, rfl, rfl, rfl, rfl, Or.inl ⟨i, rfl, by omega, rfl⟩⟩
          · refine g_iconst (q := 59) (v := (-1)) hx d_Mo_beginOf_58 rfl (by decide) ?_
            refine g_goto (q := 63) hx d_Mo_beginOf_59 rfl ?_
            exact g_iret hx d_Mo_beginOf_63 rfl hQ ⟨Nat.le_refl _, Nat.le_refl _⟩ ⟨_, rfl, rfl, rfl, rfl, Or.inr ⟨rfl, fun ⟨i9, w1, w2, w3⟩ => by obtain rfl := (nI_eq w1 (by omega)).mp w2.symm; omega⟩⟩
      · refine g_iload_n (q := 10) hx d_Mo_beginOf_9 rfl rfl ?_
        refine g_if_lt (q := 13) (t := 46) hx d_Mo_beginOf_10 rfl rfl (zb_lt0 (by omega)) (fun h10 => ?_) (fun h10 => ?_)
        · exact h10.elim
        · refine g_iload_n (q := 14) hx d_Mo_beginOf_13 rfl rfl ?_
          refine g_iconst (q := 15) (v := nI 2) hx d_Mo_beginOf_14 rfl (by decide) ?_
          refine g_iadd (q := 16) hx d_Mo_beginOf_15 rfl (nI_add _ _) ?_
          refine g_aload_n (q := 17) hx d_Mo_beginOf_16 rfl rfl ?_
          refine g_geti (q := 20) hx d_Mo_beginOf_17 rfl fl_Mo_136 hq.g0 hI.2.2.2.2.2.2.2.1 ?_
          refine g_icmp_ge (q := 23) (t := 38) hx d_Mo_beginOf_20 rfl rfl (nI_leI (by omega) (by omega)) (fun h20 => ?_) (fun h20 => ?_)
          · refine g_iconst (q := 39) (v := (-1)) hx d_Mo_beginOf_38 rfl (by decide) ?_
            refine g_istore_n (q := 40) (lc' := [(2, _), (3, _), (0, _), (1, _)]) hx d_Mo_beginOf_39 rfl (by decide) rfl ?_
            refine g_iinc (q := 43) (lc' := [(3, _), (2, _), (0, _), (1, _)]) hx d_Mo_beginOf_40 rfl rfl (z_inc _) (by decide) rfl ?_
            refine g_goto (q := 4) hx d_Mo_beginOf_43 rfl ?_
            exact bad (i + 1) (by omega) (by simp only [mBeg]; omega)
          · have hnx : mBeg arch size (i + 1) = mBeg arch size i + 5 + arch (mBeg arch size i + 2) := by
              simp only [mBeg, mRlen]
              rw [if_pos (by omega)]
            have har := hI.2.2.2.2.2.2.2.2.2.2 (mBeg arch size i + 2)
            refine g_iload_n (q := 24) hx d_Mo_beginOf_23 rfl rfl ?_
            refine g_iconst (q := 25) (v := nI 5) hx d_Mo_beginOf_24 rfl (by decide) ?_
            refine g_iadd (q := 26) hx d_Mo_beginOf_25 rfl (nI_add _ _) ?_
            refine g_aload_n (q := 27) hx d_Mo_beginOf_26 rfl rfl ?_
            refine g_geta (q := 30) hx d_Mo_beginOf_27 rfl fl_Mo_31 hq.g0 (hq.p8 hP) (by first | exact Nat.succ_ne_zero _ | omega) ?_
            refine g_iload_n (q := 31) hx d_Mo_beginOf_30 rfl rfl ?_
            refine g_iconst (q := 32) (v := nI 2) hx d_Mo_beginOf_31 rfl (by decide) ?_
            refine g_iadd (q := 33) hx d_Mo_beginOf_32 rfl (nI_add _ _) ?_
            refine g_iald (q := 34) hx d_Mo_beginOf_33 rfl hq.g8 rfl (by omega) (by decide) (hI.2.2.2.2.2.2.2.2.1 _ (by omega)) ?_
            refine g_iadd (q := 35) hx d_Mo_beginOf_34 rfl ((nI_add _ _).trans (congrArg nI hnx.symm)) ?_
            refine g_goto (q := 39) hx d_Mo_beginOf_35 rfl ?_
            refine g_istore_n (q := 40) (lc' := [(2, _), (3, _), (0, _), (1, _)]) hx d_Mo_beginOf_39 rfl (by decide) rfl ?_
            refine g_iinc (q := 43) (lc' := [(3, _), (2, _), (0, _), (1, _)]) hx d_Mo_beginOf_40 rfl rfl (z_inc _) (by decide) rfl ?_
            refine g_goto (q := 4) hx d_Mo_beginOf_43 rfl ?_
            refine z_perm (lc' := [(3, .int (nI (i + 1))), (2, .int (nI (mBeg arch size (i + 1)))), (0, .ref m), (1, .int (nI N))]) (fun q hq => by simp only [List.mem_cons, List.not_mem_nil, or_false] at hq ⊢; rcases hq with h | h | h | h <;> simp [h]) ?_
            exact ih (i + 1) (by omega) (by omega) (by rw [hnx]; omega)
    refine g_iconst (q := 1) (v := nI 0) hx d_Mo_beginOf_0 rfl (by decide) ?_
    refine g_istore_n (q := 2) (lc' := [(2, _), (0, _), (1, _)]) hx d_Mo_beginOf_1 rfl (by decide) rfl ?_
    refine g_iconst (q := 3) (v := nI 0) hx d_Mo_beginOf_2 rfl (by decide) ?_
    refine g_istore_n (q := 4) (lc' := [(3, _), (2, _), (0, _), (1, _)]) hx d_Mo_beginOf_3 rfl (by decide) rfl ?_
    exact loop 0 (Nat.zero_le _) (Nat.zero_le _)
theorem mBeg_ge (arch : Nat → Nat) (size : Nat) : ∀ i, 5 * i ≤ mBeg arch size i
  | 0 => Nat.zero_le _
  | i + 1 => by
    have := mBeg_ge arch size i
    simp only [mBeg]
    omega
set_option maxHeartbeats 4000000 in
set_option maxRecDepth 100000 in
theorem c_Mo_blocks (l : Launch) (E : zE) (Γ : zG) (n : Nat) (M : zM) (m : Nat) (len c g k size : Nat) (ref arch : Nat → Nat) (fs hs : Nat → mRd) (ur : mRd) (hq : qX Γ M.2.2 m) (hI : qI M m len c g k size ref arch fs hs ur) : zCt l E Y_Mo_blocks 1 (0, 0) [.ref m] Γ n M (zPi Γ n (fun v M' => M' = zsi M m 0 (nI 0) ∧ ∃ i : Nat, v = nI i ∧ size ≤ mBeg arch size i ∧ ∀ j, j < i → mBeg arch size j < size)) := by
  refine zCt.of [(0, .ref m)] (by decide) (Nat.le_of_ble_eq_true rfl) rfl (fun f hfl hx hQ => ?_)
  obtain ⟨P, hP⟩ : ∃ P, M.2.2 = P := ⟨_, rfl⟩
  rw [hP] at hq
  have hm0 := hq.m0
  have hs20 := hI.2.2.2.2.2.2.2.2.2.1
  have i9eq : ∀ i9 i : Nat, nI i = nI i9 → i < 2 ^ 31 → mBeg arch size i9 < size → i9 = i := fun i9 i e h1 h2 => by
    have h3 := mBeg_ge arch size i9
    exact ((nI_eq h1 (by omega)).mp e).symm
  have loop : ∀ i : Nat, i ≤ 500 → (∀ j, j < i → mBeg arch size j < size) → zGo f E Γ n (0, 0) (zsi M m 0 (nI 0)) 7 [(1, .int (nI i)), (0, .ref m)] [] := by
    refine z_loop (fun i => 500 - i) _ ?_
    intro i ih hi h9
    have hi5 := mBeg_ge arch size i
    refine g_aload_n (q := 8) hx d_Mo_blocks_7 rfl rfl ?_
    refine g_iload_n (q := 9) hx d_Mo_blocks_8 rfl rfl ?_
    refine g_ci (q := 12) (zrunV hx d_Mo_blocks_9 lk_Mo_142 rfl rfl hq.g0 rfl rfl (Nat.le_of_ble_eq_true rfl) (by decide) (by omega) (by omega) (c_Mo_beginOf _ E Γ n _ m len c g k size ref arch fs hs ur (by rw [show (zsi M m 0 (nI 0)).2.2 = P from hP]; exact hq) hI.c0 (nI i))) rfl (fun r9 M1 p9 => ?_)
    obtain ⟨rfl, p9⟩ := p9
    rcases p9 with ⟨i9, w2, w3, rfl⟩ | ⟨rfl, hz⟩
    · obtain rfl : i = i9 := (i9eq i9 i w2 (by omega) w3).symm
      refine g_if_lt (q := 15) (t := 21) hx d_Mo_blocks_12 rfl rfl (zb_lt0 (by omega)) (fun h12 => ?_) (fun h12 => ?_)
      · exact h12.elim
      · refine g_iinc (q := 18) (lc' := [(1, _), (0, _)]) hx d_Mo_blocks_15 rfl rfl (z_inc _) (by decide) rfl ?_
        refine g_goto (q := 7) hx d_Mo_blocks_18 rfl ?_
        exact ih (i + 1) (by have := mBeg_ge arch size i; omega) (by have := mBeg_ge arch size i; omega) (fun j hj => by
          by_cases e : j = i
          · subst e; exact w3
          · exact h9 j (by omega))
    · refine g_if_lt (q := 15) (t := 21) hx d_Mo_blocks_12 rfl rfl Iff.rfl (fun h12 => ?_) (fun h12 => ?_)
      · refine g_iload_n (q := 22) hx d_Mo_blocks_21 rfl rfl ?_
        exact g_iret hx d_Mo_blocks_22 rfl hQ ⟨Nat.le_refl _, Nat.le_refl _⟩ ⟨_, rfl, rfl, rfl, rfl, i, rfl, Nat.not_lt.mp (fun q => hz ⟨i, by omega, rfl, q⟩), h9⟩
      · exact absurd (by decide) h12
  refine g_aload_n (q := 1) hx d_Mo_blocks_0 rfl rfl ?_
  refine g_iconst (q := 2) (v := nI 0) hx d_Mo_blocks_1 rfl (by decide) ?_
  refine g_puti (q := 5) hx d_Mo_blocks_2 rfl fl_Mo_46 nf_7_0 hq.g0 ?_
  refine g_iconst (q := 6) (v := nI 0) hx d_Mo_blocks_5 rfl (by decide) ?_
  refine g_istore_n (q := 7) (lc' := [(1, _), (0, _)]) hx d_Mo_blocks_6 rfl (by decide) rfl ?_
  exact loop 0 (Nat.zero_le _) (fun j hj => absurd hj (Nat.not_lt_zero _))
