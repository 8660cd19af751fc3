set_option maxHeartbeats 4000000 in
set_option maxRecDepth 100000 in
theorem c_Sr_refer1 (l : Launch) (hl : l.stackTraces = false) (E : zE) (Γ : zG) (n : Nat) (M : zM) (x sh sp : Nat) (len c g k size : Nat) (ref arch : Nat → Nat) (fs hs : Nat → mRd) (ur : mRd) (hI : pI Γ M x sh sp len c g k size ref arch fs hs ur) (w y : Int32) (hy : ¬ ∃ u : Nat, 1 ≤ u ∧ u ≤ 16 ∧ y = nI u) : zCx l E Y_Sr_refer 7 (1, 6) [.ref x, .int w, .int y] Γ n M "java/lang/IllegalArgumentException" (n + 1) (fun M' => M' = M) := by
  refine zCx.of [(0, .ref x), (1, .int w), (2, .int y)] (by decide) (Nat.le_of_ble_eq_true rfl) rfl (fun f hfl hx hno hQ => ?_)
  have htr : (zll f.1).stackTraces = false := by rw [hfl]; exact hl
  have h0 := hI.1.1.1
  have hx0 := hI.1.1.2
  have hsp := hI.1.2.2.1
  have hc24 := hI.2.2.1.2
  have hg1 := hI.2.2.2.2.1.2
  have hk3 := hI.2.2.2.2.2.2.1.2
  have hl160 := hI.2.1.2.2.1
  have hRs := hI.1.2.2.2.1
  have hF := hI.1.2.2.2.2.1
  have hf0 := hF.1
  have hf1 := hF.2.1
  have hA := hI.1.2.2.2.2.2.2.2.1
  have hcz := hI.2.2.1.1
  have hgz := hI.2.2.2.2.1.1
  have q0 : ∀ _ : Unit, zr M x 0 = x + 1 := fun _ => hI.1.2.1.1
  have q1 : ∀ _ : Unit, zr M x 1 = x + 3 := fun _ => hI.1.2.1.2.1
  have q4 : ∀ _ : Unit, zr M x 4 = sh := fun _ => hI.1.2.1.2.2.2.1
  have q5 : ∀ _ : Unit, zr M x 5 = sp := fun _ => hI.1.2.1.2.2.2.2.1
  have q6 : ∀ _ : Unit, zr M x 6 = x + 134 := fun _ => hI.1.2.1.2.2.2.2.2.1
  have f0 : ∀ _ : Unit, zr M (x + 3) 0 = x + 4 := fun _ => hF.2.2.1
  have fi : ∀ i, i < 25 → zr M (x + 4) i = x + 5 + 4 * i := fun i hi => (hF.2.2.2 i hi).1
  have fs9 : ∀ i, i < 25 → pSh Γ M.2.2 (x + 5 + 4 * i) := fun i hi => (hF.2.2.2 i hi).2
  refine g_iload_n (q := 1) hx d_Sr_refer_0 rfl rfl ?_
  refine g_iconst (q := 2) (v := nI 1) hx d_Sr_refer_1 rfl (by decide) ?_
  refine g_icmp_lt (q := 5) (t := 11) hx d_Sr_refer_2 rfl rfl Iff.rfl (fun h2 => ?_) (fun h2 => ?_)
  · exact g_thr (post := (fun M' => M' = M)) (ik := 65) (is := 67) (ic := 69) hx htr hno d_Sr_refer_11 d_Sr_refer_14 d_Sr_refer_15 d_Sr_refer_17 d_Sr_refer_20 thr_IA zs_67 (by omega) (by decide) (by decide) (Nat.le_of_ble_eq_true rfl) rfl hQ
  · refine g_iload_n (q := 6) hx d_Sr_refer_5 rfl rfl ?_
    refine g_bipush (q := 8) (v := nI 16) hx d_Sr_refer_6 rfl (by decide) ?_
    refine g_icmp_le (q := 11) (t := 21) hx d_Sr_refer_8 rfl rfl Iff.rfl (fun h8 => ?_) (fun h8 => ?_)
    · exact absurd (z_in h2 h8 (by omega)) hy
    · exact g_thr (post := (fun M' => M' = M)) (ik := 65) (is := 67) (ic := 69) hx htr hno d_Sr_refer_11 d_Sr_refer_14 d_Sr_refer_15 d_Sr_refer_17 d_Sr_refer_20 thr_IA zs_67 (by omega) (by decide) (by decide) (Nat.le_of_ble_eq_true rfl) rfl hQ
set_option maxHeartbeats 4000000 in
set_option maxRecDepth 100000 in
theorem c_Sr_refer2 (l : Launch) (hl : l.stackTraces = false) (E : zE) (Γ : zG) (n : Nat) (M : zM) (x sh sp : Nat) (len c g k size : Nat) (ref arch : Nat → Nat) (fs hs : Nat → mRd) (ur : mRd) (hI : pI Γ M x sh sp len c g k size ref arch fs hs ur) (w : Int32) (u : Nat) (hu : 1 ≤ u ∧ u ≤ 16) (hcg : 0 < c ∨ g = 1) : zCx l E Y_Sr_refer 7 (1, 6) [.ref x, .int w, .int (nI u)] Γ n M "java/lang/IllegalStateException" (n + 1) (fun M' => M' = M) := by
  refine zCx.of [(0, .ref x), (1, .int w), (2, .int (nI u))] (by decide) (Nat.le_of_ble_eq_true rfl) rfl (fun f hfl hx hno hQ => ?_)
  have htr : (zll f.1).stackTraces = false := by rw [hfl]; exact hl
  have h0 := hI.1.1.1
  have hx0 := hI.1.1.2
  have hsp := hI.1.2.2.1
  have hc24 := hI.2.2.1.2
  have hg1 := hI.2.2.2.2.1.2
  have hk3 := hI.2.2.2.2.2.2.1.2
  have hl160 := hI.2.1.2.2.1
  have hRs := hI.1.2.2.2.1
  have hF := hI.1.2.2.2.2.1
  have hf0 := hF.1
  have hf1 := hF.2.1
  have hA := hI.1.2.2.2.2.2.2.2.1
  have hcz := hI.2.2.1.1
  have hgz := hI.2.2.2.2.1.1
  have q0 : ∀ _ : Unit, zr M x 0 = x + 1 := fun _ => hI.1.2.1.1
  have q1 : ∀ _ : Unit, zr M x 1 = x + 3 := fun _ => hI.1.2.1.2.1
  have q4 : ∀ _ : Unit, zr M x 4 = sh := fun _ => hI.1.2.1.2.2.2.1
  have q5 : ∀ _ : Unit, zr M x 5 = sp := fun _ => hI.1.2.1.2.2.2.2.1
  have q6 : ∀ _ : Unit, zr M x 6 = x + 134 := fun _ => hI.1.2.1.2.2.2.2.2.1
  have f0 : ∀ _ : Unit, zr M (x + 3) 0 = x + 4 := fun _ => hF.2.2.1
  have fi : ∀ i, i < 25 → zr M (x + 4) i = x + 5 + 4 * i := fun i hi => (hF.2.2.2 i hi).1
  have fs9 : ∀ i, i < 25 → pSh Γ M.2.2 (x + 5 + 4 * i) := fun i hi => (hF.2.2.2 i hi).2
  refine g_iload_n (q := 1) hx d_Sr_refer_0 rfl rfl ?_
  refine g_iconst (q := 2) (v := nI 1) hx d_Sr_refer_1 rfl (by decide) ?_
  refine g_icmp_lt (q := 5) (t := 11) hx d_Sr_refer_2 rfl rfl (nI_ltI (by omega) (by omega)) (fun h2 => ?_) (fun h2 => ?_)
  · exact absurd h2 (by omega)
  · refine g_iload_n (q := 6) hx d_Sr_refer_5 rfl rfl ?_
    refine g_bipush (q := 8) (v := nI 16) hx d_Sr_refer_6 rfl (by decide) ?_
    refine g_icmp_le (q := 11) (t := 21) hx d_Sr_refer_8 rfl rfl (nI_leI (by omega) (by omega)) (fun h8 => ?_) (fun h8 => ?_)
    · refine g_aload_n (q := 22) hx d_Sr_refer_21 rfl rfl ?_
      refine g_geto (q := 25) hx d_Sr_refer_22 rfl fl_Sr_21 h0 (q1 ()) (by first | exact Nat.succ_ne_zero _ | omega) ?_
      refine g_geti (q := 28) hx d_Sr_refer_25 rfl fl_Sr_72 hf0 hcz ?_
      refine g_if_gt (q := 31) (t := 38) hx d_Sr_refer_28 rfl rfl (zb_gt0 (by omega)) (fun h28 => ?_) (fun h28 => ?_)
      · exact g_thr (post := (fun M' => M' = M)) (ik := 76) (is := 78) (ic := 80) hx htr hno d_Sr_refer_38 d_Sr_refer_41 d_Sr_refer_42 d_Sr_refer_44 d_Sr_refer_47 thr_IS zs_78 (by omega) (by decide) (by decide) (Nat.le_of_ble_eq_true rfl) rfl hQ
      · refine g_aload_n (q := 32) hx d_Sr_refer_31 rfl rfl ?_
        refine g_getz (q := 35) hx d_Sr_refer_32 rfl fl_Sr_25 h0 hgz ?_
        refine g_if_eq (q := 38) (t := 48) hx d_Sr_refer_35 rfl rfl (zb_eq0 (by omega)) (fun h35 => ?_) (fun h35 => ?_)
        · exact absurd h35 (by omega)
        · exact g_thr (post := (fun M' => M' = M)) (ik := 76) (is := 78) (ic := 80) hx htr hno d_Sr_refer_38 d_Sr_refer_41 d_Sr_refer_42 d_Sr_refer_44 d_Sr_refer_47 thr_IS zs_78 (by omega) (by decide) (by decide) (Nat.le_of_ble_eq_true rfl) rfl hQ
    · exact absurd (by omega) h8
set_option maxHeartbeats 4000000 in
set_option maxRecDepth 100000 in
theorem c_Sr_refer3 (l : Launch) (hl : l.stackTraces = false) (E : zE) (Γ : zG) (n : Nat) (M : zM) (x sh sp : Nat) (len c g k size : Nat) (ref arch : Nat → Nat) (fs hs : Nat → mRd) (ur : mRd) (hI : pI Γ M x sh sp len c g k size ref arch fs hs ur) (w : Int32) (u : Nat) (hu : 1 ≤ u ∧ u ≤ 16) (hcg : c = 0 ∧ g = 0) (hl9 : 160 < len + u) : zCx l E Y_Sr_refer 7 (1, 6) [.ref x, .int w, .int (nI u)] Γ n M "java/lang/UnsupportedOperationException" (n + 1) (fun M' => M' = M) := by
  refine zCx.of [(0, .ref x), (1, .int w), (2, .int (nI u))] (by decide) (Nat.le_of_ble_eq_true rfl) rfl (fun f hfl hx hno hQ => ?_)
  have htr : (zll f.1).stackTraces = false := by rw [hfl]; exact hl
  have h0 := hI.1.1.1
  have hx0 := hI.1.1.2
  have hsp := hI.1.2.2.1
  have hc24 := hI.2.2.1.2
  have hg1 := hI.2.2.2.2.1.2
  have hk3 := hI.2.2.2.2.2.2.1.2
  have hl160 := hI.2.1.2.2.1
  have hRs := hI.1.2.2.2.1
  have hF := hI.1.2.2.2.2.1
  have hf0 := hF.1
  have hf1 := hF.2.1
  have hA := hI.1.2.2.2.2.2.2.2.1
  have hcz := hI.2.2.1.1
  have hgz := hI.2.2.2.2.1.1
  have q0 : ∀ _ : Unit, zr M x 0 = x + 1 := fun _ => hI.1.2.1.1
  have q1 : ∀ _ : Unit, zr M x 1 = x + 3 := fun _ => hI.1.2.1.2.1
  have q4 : ∀ _ : Unit, zr M x 4 = sh := fun _ => hI.1.2.1.2.2.2.1
  have q5 : ∀ _ : Unit, zr M x 5 = sp := fun _ => hI.1.2.1.2.2.2.2.1
  have q6 : ∀ _ : Unit, zr M x 6 = x + 134 := fun _ => hI.1.2.1.2.2.2.2.2.1
  have f0 : ∀ _ : Unit, zr M (x + 3) 0 = x + 4 := fun _ => hF.2.2.1
  have fi : ∀ i, i < 25 → zr M (x + 4) i = x + 5 + 4 * i := fun i hi => (hF.2.2.2 i hi).1
  have fs9 : ∀ i, i < 25 → pSh Γ M.2.2 (x + 5 + 4 * i) := fun i hi => (hF.2.2.2 i hi).2
  refine g_iload_n (q := 1) hx d_Sr_refer_0 rfl rfl ?_
  refine g_iconst (q := 2) (v := nI 1) hx d_Sr_refer_1 rfl (by decide) ?_
  refine g_icmp_lt (q := 5) (t := 11) hx d_Sr_refer_2 rfl rfl (nI_ltI (by omega) (by omega)) (fun h2 => ?_) (fun h2 => ?_)
  · exact absurd h2 (by omega)
  · refine g_iload_n (q := 6) hx d_Sr_refer_5 rfl rfl ?_
    refine g_bipush (q := 8) (v := nI 16) hx d_Sr_refer_6 rfl (by decide) ?_
    refine g_icmp_le (q := 11) (t := 21) hx d_Sr_refer_8 rfl rfl (nI_leI (by omega) (by omega)) (fun h8 => ?_) (fun h8 => ?_)
    · refine g_aload_n (q := 22) hx d_Sr_refer_21 rfl rfl ?_
      refine g_geto (q := 25) hx d_Sr_refer_22 rfl fl_Sr_21 h0 (q1 ()) (by first | exact Nat.succ_ne_zero _ | omega) ?_
      refine g_geti (q := 28) hx d_Sr_refer_25 rfl fl_Sr_72 hf0 hcz ?_
      refine g_if_gt (q := 31) (t := 38) hx d_Sr_refer_28 rfl rfl (zb_gt0 (by omega)) (fun h28 => ?_) (fun h28 => ?_)
      · exact absurd h28 (by omega)
      · refine g_aload_n (q := 32) hx d_Sr_refer_31 rfl rfl ?_
        refine g_getz (q := 35) hx d_Sr_refer_32 rfl fl_Sr_25 h0 hgz ?_
        refine g_if_eq (q := 38) (t := 48) hx d_Sr_refer_35 rfl rfl (zb_eq0 (by omega)) (fun h35 => ?_) (fun h35 => ?_)
        · refine g_aload_n (q := 49) hx d_Sr_refer_48 rfl rfl ?_
          refine g_geto (q := 52) hx d_Sr_refer_49 rfl fl_Sr_12 h0 (q0 ()) (by first | exact Nat.succ_ne_zero _ | omega) ?_
          refine g_geti (q := 55) hx d_Sr_refer_52 rfl fl_Sr_81 hRs.1 hI.2.1.1 ?_
          refine g_iload_n (q := 56) hx d_Sr_refer_55 rfl rfl ?_
          refine g_iadd (q := 57) hx d_Sr_refer_56 rfl (nI_add _ _) ?_
          refine g_sipush (q := 60) (v := nI 160) hx d_Sr_refer_57 rfl (by decide) ?_
          refine g_icmp_le (q := 63) (t := 73) hx d_Sr_refer_60 rfl rfl (nI_leI (by omega) (by omega)) (fun h60 => ?_) (fun h60 => ?_)
          · exact absurd h60 (by omega)
          · exact g_thr (post := (fun M' => M' = M)) (ik := 82) (is := 84) (ic := 86) hx htr hno d_Sr_refer_63 d_Sr_refer_66 d_Sr_refer_67 d_Sr_refer_69 d_Sr_refer_72 thr_UO zs_84 (by omega) (by decide) (by decide) (Nat.le_of_ble_eq_true rfl) rfl hQ
        · exact absurd (by omega) h35
    · exact absurd (by omega) h8
set_option maxHeartbeats 4000000 in
set_option maxRecDepth 100000 in
theorem c_Sr_refer0 (l : Launch) (E : zE) (Γ : zG) (n : Nat) (M : zM) (x sh sp : Nat) (len c g k size : Nat) (ref arch : Nat → Nat) (fs hs : Nat → mRd) (ur : mRd) (hI : pI Γ M x sh sp len c g k size ref arch fs hs ur) (w : Int32) (u : Nat) (hu : 1 ≤ u ∧ u ≤ 16) (hcg : c = 0 ∧ g = 0) (hl9 : len + u ≤ 160) : zCt l E Y_Sr_refer 7 (0, 0) [.ref x, .int w, .int (nI u)] Γ n M (zPi Γ n (fun v M' => v = nI (len + u) ∧ kX x M M' ∧ pI Γ M' x sh sp (len + u) c g k size (mRf ref len w) arch fs hs ur)) := by
  refine zCt.of [(0, .ref x), (1, .int w), (2, .int (nI u))] (by decide) (Nat.le_of_ble_eq_true rfl) rfl (fun f hfl hx hQ => ?_)
  have h0 := hI.1.1.1
  have hx0 := hI.1.1.2
  have hsp := hI.1.2.2.1
  have hc24 := hI.2.2.1.2
  have hg1 := hI.2.2.2.2.1.2
  have hk3 := hI.2.2.2.2.2.2.1.2
  have hl160 := hI.2.1.2.2.1
  have hRs := hI.1.2.2.2.1
  have hF := hI.1.2.2.2.2.1
  have hf0 := hF.1
  have hf1 := hF.2.1
  have hA := hI.1.2.2.2.2.2.2.2.1
  have hcz := hI.2.2.1.1
  have hgz := hI.2.2.2.2.1.1
  have q0 : ∀ _ : Unit, zr M x 0 = x + 1 := fun _ => hI.1.2.1.1
  have q1 : ∀ _ : Unit, zr M x 1 = x + 3 := fun _ => hI.1.2.1.2.1
  have q4 : ∀ _ : Unit, zr M x 4 = sh := fun _ => hI.1.2.1.2.2.2.1
  have q5 : ∀ _ : Unit, zr M x 5 = sp := fun _ => hI.1.2.1.2.2.2.2.1
  have q6 : ∀ _ : Unit, zr M x 6 = x + 134 := fun _ => hI.1.2.1.2.2.2.2.2.1
  have f0 : ∀ _ : Unit, zr M (x + 3) 0 = x + 4 := fun _ => hF.2.2.1
  have fi : ∀ i, i < 25 → zr M (x + 4) i = x + 5 + 4 * i := fun i hi => (hF.2.2.2 i hi).1
  have fs9 : ∀ i, i < 25 → pSh Γ M.2.2 (x + 5 + 4 * i) := fun i hi => (hF.2.2.2 i hi).2
  refine g_iload_n (q := 1) hx d_Sr_refer_0 rfl rfl ?_
  refine g_iconst (q := 2) (v := nI 1) hx d_Sr_refer_1 rfl (by decide) ?_
  refine g_icmp_lt (q := 5) (t := 11) hx d_Sr_refer_2 rfl rfl (nI_ltI (by omega) (by omega)) (fun h2 => ?_) (fun h2 => ?_)
  · exact absurd h2 (by omega)
  · refine g_iload_n (q := 6) hx d_Sr_refer_5 rfl rfl ?_
    refine g_bipush (q := 8) (v := nI 16) hx d_Sr_refer_6 rfl (by decide) ?_
    refine g_icmp_le (q := 11) (t := 21) hx d_Sr_refer_8 rfl rfl (nI_leI (by omega) (by omega)) (fun h8 => ?_) (fun h8 => ?_)
    · refine g_aload_n (q := 22) hx d_Sr_refer_21 rfl rfl ?_
      refine g_geto (q := 25) hx d_Sr_refer_22 rfl fl_Sr_21 h0 (q1 ()) (by first | exact Nat.succ_ne_zero _ | omega) ?_
      refine g_geti (q := 28) hx d_Sr_refer_25 rfl fl_Sr_72 hf0 hcz ?_
      refine g_if_gt (q := 31) (t := 38) hx d_Sr_refer_28 rfl rfl (zb_gt0 (by omega)) (fun h28 => ?_) (fun h28 => ?_)
      · exact absurd h28 (by omega)
      · refine g_aload_n (q := 32) hx d_Sr_refer_31 rfl rfl ?_
        refine g_getz (q := 35) hx d_Sr_refer_32 rfl fl_Sr_25 h0 hgz ?_
        refine g_if_eq (q := 38) (t := 48) hx d_Sr_refer_35 rfl rfl (zb_eq0 (by omega)) (fun h35 => ?_) (fun h35 => ?_)
        · refine g_aload_n (q := 49) hx d_Sr_refer_48 rfl rfl ?_
          refine g_geto (q := 52) hx d_Sr_refer_49 rfl fl_Sr_12 h0 (q0 ()) (by first | exact Nat.succ_ne_zero _ | omega) ?_
          refine g_geti (q := 55) hx d_Sr_refer_52 rfl fl_Sr_81 hRs.1 hI.2.1.1 ?_
          refine g_iload_n (q := 56) hx d_Sr_refer_55 rfl rfl ?_
          refine g_iadd (q := 57) hx d_Sr_refer_56 rfl (nI_add _ _) ?_
          refine g_sipush (q := 60) (v := nI 160) hx d_Sr_refer_57 rfl (by decide) ?_
          refine g_icmp_le (q := 63) (t := 73) hx d_Sr_refer_60 rfl rfl (nI_leI (by omega) (by omega)) (fun h60 => ?_) (fun h60 => ?_)
          · refine g_aload_n (q := 74) hx d_Sr_refer_73 rfl rfl ?_
            refine g_geto (q := 77) hx d_Sr_refer_74 rfl fl_Sr_12 h0 (q0 ()) (by first | exact Nat.succ_ne_zero _ | omega) ?_
            refine g_iload_n (q := 78) hx d_Sr_refer_77 rfl rfl ?_
            refine g_iload_n (q := 79) hx d_Sr_refer_78 rfl rfl ?_
            refine g_cv (q := 82) (zrunV hx d_Sr_refer_79 lk_Sr_87 rfl rfl hRs.1 rfl rfl (Nat.le_of_ble_eq_true rfl) (by decide) (by omega) (by omega) (c_Re_append _ E Γ n _ (x + 1) (x + 2) len u w hRs.1 hRs.2.1 hRs.2.2.1 (by omega) hI.2.1.1 hl9 hu.2 (by omega))) rfl (fun M79 p79 => ?_)
            obtain ⟨e1, e2, e3, e4, e5⟩ := p79
            have q09 : ∀ _ : Unit, zr M79 x 0 = x + 1 := fun _ => by
              show M79.2.2 x 0 = x + 1
              rw [e1]; exact hI.1.2.1.1
            refine g_aload_n (q := 83) hx d_Sr_refer_82 rfl rfl ?_
            refine g_geto (q := 86) hx d_Sr_refer_83 rfl fl_Sr_12 h0 (q09 ()) (by first | exact Nat.succ_ne_zero _ | omega) ?_
            refine g_geti (q := 89) hx d_Sr_refer_86 rfl fl_Sr_81 hRs.1 e3 ?_
            exact g_iret hx d_Sr_refer_89 rfl hQ ⟨Nat.le_refl _, Nat.le_refl _⟩ ⟨_, rfl, rfl, rfl, rfl, fun a ha => ⟨e2 a (by omega) (by omega), by rw [e1], by rw [e1]⟩, by
                  obtain ⟨i1, i2, i3, i4, i5, i6, i7, i8, i9⟩ := hI
                  have e9 : ∀ a j, a ≠ x + 1 → a ≠ x + 2 → zi M79 a j = zi M a j := fun a j q1 q2 => by
                    show M79.1 a j = M.1 a j
                    rw [e2 a q1 q2]
                  refine ⟨by rw [e1]; exact i1, ⟨e3, fun j hj => ?_, hl9, fun j => ?_⟩, ⟨(e9 _ _ (by omega) (by omega)).trans i3.1, i3.2⟩, fun i hi => absurd hi (by omega), ⟨(e9 _ _ (by omega) (by omega)).trans i5.1, i5.2⟩, fun hg => absurd hg (by omega), ⟨(e9 _ _ (by omega) (by omega)).trans i7.1, i7.2⟩, fun i hi => ((i8 i hi).kept (fun b q1 q2 => e2 b (by omega) (by omega))).up (by omega) (fun j hj => if_pos hj), i9.kept (e2 _ (by omega) (by omega)) (e2 _ (by omega) (by omega))⟩
                  · show zi M79 (x + 2) j = nI (mRf ref len w j)
                    unfold mRf
                    by_cases c9 : j < len
                    · rw [if_pos c9, e4 j c9]; exact i2.2.1 j c9
                    · rw [if_neg c9]
                      have h9 := e5 (j - len) (by omega)
                      rw [show len + (j - len) = j by omega] at h9
                      exact h9
                  · unfold mRf; split
                    · exact i2.2.2.2 j
                    · exact mDig_lt _ _⟩
          · exact absurd (by omega) h60
        · exact absurd (by omega) h35
    · exact absurd (by omega) h8
set_option maxHeartbeats 4000000 in
set_option maxRecDepth 100000 in
theorem c_Sr_start1 (l : Launch) (hl : l.stackTraces = false) (E : zE) (Γ : zG) (n : Nat) (M : zM) (x sh sp : Nat) (len c g k size : Nat) (ref arch : Nat → Nat) (fs hs : Nat → mRd) (ur : mRd) (hI : pI Γ M x sh sp len c g k size ref arch fs hs ur) (y : Int32) (hy : ¬ ∃ u : Nat, 0 ≤ u ∧ u ≤ len ∧ y = nI u) : zCx l E Y_Sr_start 7 (1, 6) [.ref x, .int y] Γ n M "java/lang/IndexOutOfBoundsException" (n + 1) (fun M' => M' = M) := by
  refine zCx.of [(0, .ref x), (1, .int y)] (by decide) (Nat.le_of_ble_eq_true rfl) rfl (fun f hfl hx hno hQ => ?_)
  have htr : (zll f.1).stackTraces = false := by rw [hfl]; exact hl
  have h0 := hI.1.1.1
  have hx0 := hI.1.1.2
  have hsp := hI.1.2.2.1
  have hc24 := hI.2.2.1.2
  have hg1 := hI.2.2.2.2.1.2
  have hk3 := hI.2.2.2.2.2.2.1.2
  have hl160 := hI.2.1.2.2.1
  have hRs := hI.1.2.2.2.1
  have hF := hI.1.2.2.2.2.1
  have hf0 := hF.1
  have hf1 := hF.2.1
  have hA := hI.1.2.2.2.2.2.2.2.1
  have hcz := hI.2.2.1.1
  have hgz := hI.2.2.2.2.1.1
  have q0 : ∀ _ : Unit, zr M x 0 = x + 1 := fun _ => hI.1.2.1.1
  have q1 : ∀ _ : Unit, zr M x 1 = x + 3 := fun _ => hI.1.2.1.2.1
  have q4 : ∀ _ : Unit, zr M x 4 = sh := fun _ => hI.1.2.1.2.2.2.1
  have q5 : ∀ _ : Unit, zr M x 5 = sp := fun _ => hI.1.2.1.2.2.2.2.1
  have q6 : ∀ _ : Unit, zr M x 6 = x + 134 := fun _ => hI.1.2.1.2.2.2.2.2.1
  have f0 : ∀ _ : Unit, zr M (x + 3) 0 = x + 4 := fun _ => hF.2.2.1
  have fi : ∀ i, i < 25 → zr M (x + 4) i = x + 5 + 4 * i := fun i hi => (hF.2.2.2 i hi).1
  have fs9 : ∀ i, i < 25 → pSh Γ M.2.2 (x + 5 + 4 * i) := fun i hi => (hF.2.2.2 i hi).2
  refine g_iload_n (q := 1) hx d_Sr_start_0 rfl rfl ?_
  refine g_if_lt (q := 4) (t := 15) hx d_Sr_start_1 rfl rfl Iff.rfl (fun h1 => ?_) (fun h1 => ?_)
  · exact g_thr (post := (fun M' => M' = M)) (ik := 91) (is := 93) (ic := 95) hx htr hno d_Sr_start_15 d_Sr_start_18 d_Sr_start_19 d_Sr_start_21 d_Sr_start_24 thr_IO zs_93 (by omega) (by decide) (by decide) (Nat.le_of_ble_eq_true rfl) rfl hQ
  · refine g_iload_n (q := 5) hx d_Sr_start_4 rfl rfl ?_
    refine g_aload_n (q := 6) hx d_Sr_start_5 rfl rfl ?_
    refine g_geto (q := 9) hx d_Sr_start_6 rfl fl_Sr_12 h0 (q0 ()) (by first | exact Nat.succ_ne_zero _ | omega) ?_
    refine g_geti (q := 12) hx d_Sr_start_9 rfl fl_Sr_81 hRs.1 hI.2.1.1 ?_
    refine g_icmp_le (q := 15) (t := 25) hx d_Sr_start_12 rfl rfl Iff.rfl (fun h12 => ?_) (fun h12 => ?_)
    · exact absurd (z_in (a := 0) (by rw [nI_0]; exact h1) h12 (by omega)) hy
    · exact g_thr (post := (fun M' => M' = M)) (ik := 91) (is := 93) (ic := 95) hx htr hno d_Sr_start_15 d_Sr_start_18 d_Sr_start_19 d_Sr_start_21 d_Sr_start_24 thr_IO zs_93 (by omega) (by decide) (by decide) (Nat.le_of_ble_eq_true rfl) rfl hQ
set_option maxHeartbeats 4000000 in
set_option maxRecDepth 100000 in
theorem c_Sr_start0 (l : Launch) (E : zE) (Γ : zG) (n : Nat) (M : zM) (x sh sp : Nat) (len c g k size : Nat) (ref arch : Nat → Nat) (fs hs : Nat → mRd) (ur : mRd) (hI : pI Γ M x sh sp len c g k size ref arch fs hs ur) (u : Nat) (hu : u ≤ len) : zCt l E Y_Sr_start 7 (0, 0) [.ref x, .int (nI u)] Γ n M (zPv Γ n (fun M' => kX x M M' ∧ pI Γ M' x sh sp len c 1 k size ref arch fs hs (u, []))) := by
  refine zCt.of [(0, .ref x), (1, .int (nI u))] (by decide) (Nat.le_of_ble_eq_true rfl) rfl (fun f hfl hx hQ => ?_)
  have h0 := hI.1.1.1
  have hx0 := hI.1.1.2
  have hsp := hI.1.2.2.1
  have hc24 := hI.2.2.1.2
  have hg1 := hI.2.2.2.2.1.2
  have hk3 := hI.2.2.2.2.2.2.1.2
  have hl160 := hI.2.1.2.2.1
  have hRs := hI.1.2.2.2.1
  have hF := hI.1.2.2.2.2.1
  have hf0 := hF.1
  have hf1 := hF.2.1
  have hA := hI.1.2.2.2.2.2.2.2.1
  have hcz := hI.2.2.1.1
  have hgz := hI.2.2.2.2.1.1
  have q0 : ∀ _ : Unit, zr M x 0 = x + 1 := fun _ => hI.1.2.1.1
  have q1 : ∀ _ : Unit, zr M x 1 = x + 3 := fun _ => hI.1.2.1.2.1
  have q4 : ∀ _ : Unit, zr M x 4 = sh := fun _ => hI.1.2.1.2.2.2.1
  have q5 : ∀ _ : Unit, zr M x 5 = sp := fun _ => hI.1.2.1.2.2.2.2.1
  have q6 : ∀ _ : Unit, zr M x 6 = x + 134 := fun _ => hI.1.2.1.2.2.2.2.2.1
  have f0 : ∀ _ : Unit, zr M (x + 3) 0 = x + 4 := fun _ => hF.2.2.1
  have fi : ∀ i, i < 25 → zr M (x + 4) i = x + 5 + 4 * i := fun i hi => (hF.2.2.2 i hi).1
  have fs9 : ∀ i, i < 25 → pSh Γ M.2.2 (x + 5 + 4 * i) := fun i hi => (hF.2.2.2 i hi).2
  refine g_iload_n (q := 1) hx d_Sr_start_0 rfl rfl ?_
  refine g_if_lt (q := 4) (t := 15) hx d_Sr_start_1 rfl rfl (zb_lt0 (by omega)) (fun h1 => ?_) (fun h1 => ?_)
  · exact h1.elim
  · refine g_iload_n (q := 5) hx d_Sr_start_4 rfl rfl ?_
    refine g_aload_n (q := 6) hx d_Sr_start_5 rfl rfl ?_
    refine g_geto (q := 9) hx d_Sr_start_6 rfl fl_Sr_12 h0 (q0 ()) (by first | exact Nat.succ_ne_zero _ | omega) ?_
    refine g_geti (q := 12) hx d_Sr_start_9 rfl fl_Sr_81 hRs.1 hI.2.1.1 ?_
    refine g_icmp_le (q := 15) (t := 25) hx d_Sr_start_12 rfl rfl (nI_leI (by omega) (by omega)) (fun h12 => ?_) (fun h12 => ?_)
    · refine g_aload_n (q := 26) hx d_Sr_start_25 rfl rfl ?_
      refine g_geto (q := 29) hx d_Sr_start_26 rfl fl_Sr_21 h0 (q1 ()) (by first | exact Nat.succ_ne_zero _ | omega) ?_
      refine g_geta (q := 32) hx d_Sr_start_29 rfl fl_Sr_62 hf0 (f0 ()) (by first | exact Nat.succ_ne_zero _ | omega) ?_
      refine g_aload_n (q := 33) hx d_Sr_start_32 rfl rfl ?_
      refine g_geto (q := 36) hx d_Sr_start_33 rfl fl_Sr_21 h0 (q1 ()) (by first | exact Nat.succ_ne_zero _ | omega) ?_
      refine g_geti (q := 39) hx d_Sr_start_36 rfl fl_Sr_72 hf0 hcz ?_
      refine g_aald (q := 40) hx d_Sr_start_39 rfl hf1 rfl (by omega) (by decide) (fi c (by omega)) (by omega) ?_
      refine g_iload_n (q := 41) hx d_Sr_start_40 rfl rfl ?_
      refine g_cv (q := 44) (zrunV hx d_Sr_start_41 lk_Sr_96 rfl rfl (fs9 c (by omega)).1.1 rfl rfl (Nat.le_of_ble_eq_true rfl) (by decide) (by omega) (by omega) (c_Rd_begin _ E Γ n _ (x + 5 + 4 * c) (nI u) (fs9 c (by omega)).1.1)) rfl (fun M1 p41 => ?_)
      subst p41
      refine g_aload_n (q := 45) hx d_Sr_start_44 rfl rfl ?_
      refine g_iconst (q := 46) (v := nI 1) hx d_Sr_start_45 rfl (by decide) ?_
      refine g_putz (q := 49) hx d_Sr_start_46 rfl fl_Sr_25 nf_6_2 h0 (Or.inr rfl) ?_
      exact g_vret hx d_Sr_start_49 rfl hQ ⟨Nat.le_refl _, Nat.le_refl _⟩ ⟨rfl, rfl, rfl, ((((kX.rf.si (by omega)).si (by omega)).si (by omega)).si (by omega)).si (by omega), by
            obtain ⟨i1, i2, i3, i4, i5, i6, i7, i8, i9⟩ := hI
            obtain ⟨M9, hM9⟩ : ∃ M9, M9 = zsi (zsi (zsi (zsi (zsi M (x + 5 + 4 * c) 3 (nI u)) (x + 5 + 4 * c) 4 (nI 0)) (x + 5 + 4 * c) 5 (nI 0)) (x + 5 + 4 * c) 6 (nI 0)) x 2 (nI 1) := ⟨_, rfl⟩
            rw [← hM9]
            have e2 : ∀ a, a ≠ x → a ≠ x + 5 + 4 * c → M9.1 a = M.1 a := fun a q1 q2 => by rw [hM9, zi_b q1, zi_b q2, zi_b q2, zi_b q2, zi_b q2]
            have e1 : M9.2 = M.2 := by rw [hM9]; rfl
            have e9 : ∀ a j, a ≠ x → a ≠ x + 5 + 4 * c → zi M9 a j = zi M a j := fun a j q1 q2 => by
              show M9.1 a j = M.1 a j
              rw [e2 a q1 q2]
            refine ⟨by rw [e1]; exact i1, i2.kept (e2 _ (by omega) (by omega)) (e2 _ (by omega) (by omega)), ⟨(e9 _ _ (by omega) (by omega)).trans i3.1, i3.2⟩, fun i hi => (i4 i hi).kept (fun b q1 q2 => e2 b (by omega) (by omega)), ⟨by rw [hM9, zi_s], Nat.le_refl _⟩, fun _ => ⟨⟨?_, ?_, ?_, ?_, fun j hj => absurd hj (Nat.not_lt_zero _)⟩, fun k hk => absurd hk (Nat.not_lt_zero _), hu, trivial, Nat.zero_le _, Nat.zero_le _⟩, ⟨(e9 _ _ (by omega) (by omega)).trans i7.1, i7.2⟩, fun i hi => (i8 i hi).kept (fun b q1 q2 => e2 b (by omega) (by omega)), i9.kept (e2 _ (by omega) (by omega)) (e2 _ (by omega) (by omega))⟩
            · rw [hM9, zi_a (by omega), zi_k (by decide), zi_k (by decide), zi_k (by decide), zi_s]
            · rw [hM9, zi_a (by omega), zi_k (by decide), zi_k (by decide), zi_s]; rfl
            · rw [hM9, zi_a (by omega), zi_k (by decide), zi_s]; rfl
            · rw [hM9, zi_a (by omega), zi_s]; rfl⟩
    · exact absurd (by omega) h12
set_option maxHeartbeats 4000000 in
set_option maxRecDepth 100000 in
theorem c_Sr_edit1 (l : Launch) (hl : l.stackTraces = false) (E : zE) (Γ : zG) (n : Nat) (M : zM) (x sh sp : Nat) (len c g k size : Nat) (ref arch : Nat → Nat) (fs hs : Nat → mRd) (ur : mRd) (hI : pI Γ M x sh sp len c g k size ref arch fs hs ur) (y z : Int32) (hg : g = 0) : zCx l E Y_Sr_edit 7 (1, 6) [.ref x, .int y, .int z] Γ n M "java/lang/IllegalStateException" (n + 1) (fun M' => M' = M) := by
  refine zCx.of [(0, .ref x), (1, .int y), (2, .int z)] (by decide) (Nat.le_of_ble_eq_true rfl) rfl (fun f hfl hx hno hQ => ?_)
  have htr : (zll f.1).stackTraces = false := by rw [hfl]; exact hl
  have h0 := hI.1.1.1
  have hx0 := hI.1.1.2
  have hsp := hI.1.2.2.1
  have hc24 := hI.2.2.1.2
  have hg1 := hI.2.2.2.2.1.2
  have hk3 := hI.2.2.2.2.2.2.1.2
  have hl160 := hI.2.1.2.2.1
  have hRs := hI.1.2.2.2.1
  have hF := hI.1.2.2.2.2.1
  have hf0 := hF.1
  have hf1 := hF.2.1
  have hA := hI.1.2.2.2.2.2.2.2.1
  have hcz := hI.2.2.1.1
  have hgz := hI.2.2.2.2.1.1
  have q0 : ∀ _ : Unit, zr M x 0 = x + 1 := fun _ => hI.1.2.1.1
  have q1 : ∀ _ : Unit, zr M x 1 = x + 3 := fun _ => hI.1.2.1.2.1
  have q4 : ∀ _ : Unit, zr M x 4 = sh := fun _ => hI.1.2.1.2.2.2.1
  have q5 : ∀ _ : Unit, zr M x 5 = sp := fun _ => hI.1.2.1.2.2.2.2.1
  have q6 : ∀ _ : Unit, zr M x 6 = x + 134 := fun _ => hI.1.2.1.2.2.2.2.2.1
  have f0 : ∀ _ : Unit, zr M (x + 3) 0 = x + 4 := fun _ => hF.2.2.1
  have fi : ∀ i, i < 25 → zr M (x + 4) i = x + 5 + 4 * i := fun i hi => (hF.2.2.2 i hi).1
  have fs9 : ∀ i, i < 25 → pSh Γ M.2.2 (x + 5 + 4 * i) := fun i hi => (hF.2.2.2 i hi).2
  refine g_aload_n (q := 1) hx d_Sr_edit_0 rfl rfl ?_
  refine g_getz (q := 4) hx d_Sr_edit_1 rfl fl_Sr_25 h0 hgz ?_
  refine g_if_ne (q := 7) (t := 17) hx d_Sr_edit_4 rfl rfl (zb_ne0 (by omega)) (fun h4 => ?_) (fun h4 => ?_)
  · exact absurd h4 (by omega)
  · exact g_thr (post := (fun M' => M' = M)) (ik := 76) (is := 99) (ic := 80) hx htr hno d_Sr_edit_7 d_Sr_edit_10 d_Sr_edit_11 d_Sr_edit_13 d_Sr_edit_16 thr_IS zs_99 (by omega) (by decide) (by decide) (Nat.le_of_ble_eq_true rfl) rfl hQ
set_option maxHeartbeats 4000000 in
set_option maxRecDepth 100000 in
theorem c_Sr_edit2 (l : Launch) (hl : l.stackTraces = false) (E : zE) (Γ : zG) (n : Nat) (M : zM) (x sh sp : Nat) (len c g k size : Nat) (ref arch : Nat → Nat) (fs hs : Nat → mRd) (ur : mRd) (hI : pI Γ M x sh sp len c g k size ref arch fs hs ur) (y z : Int32) (hg : g = 1) (hz : ¬ zFit ref len (ur.1 + mPs ur.2) y z) : zCx l E Y_Sr_edit 7 (1, 6) [.ref x, .int y, .int z] Γ n M "java/lang/IllegalArgumentException" (n + 1) (fun M' => M' = M) := by
  refine zCx.of [(0, .ref x), (1, .int y), (2, .int z)] (by decide) (Nat.le_of_ble_eq_true rfl) rfl (fun f hfl hx hno hQ => ?_)
  have htr : (zll f.1).stackTraces = false := by rw [hfl]; exact hl
  have h0 := hI.1.1.1
  have hx0 := hI.1.1.2
  have hsp := hI.1.2.2.1
  have hc24 := hI.2.2.1.2
  have hg1 := hI.2.2.2.2.1.2
  have hk3 := hI.2.2.2.2.2.2.1.2
  have hl160 := hI.2.1.2.2.1
  have hRs := hI.1.2.2.2.1
  have hF := hI.1.2.2.2.2.1
  have hf0 := hF.1
  have hf1 := hF.2.1
  have hA := hI.1.2.2.2.2.2.2.2.1
  have hcz := hI.2.2.1.1
  have hgz := hI.2.2.2.2.1.1
  have q0 : ∀ _ : Unit, zr M x 0 = x + 1 := fun _ => hI.1.2.1.1
  have q1 : ∀ _ : Unit, zr M x 1 = x + 3 := fun _ => hI.1.2.1.2.1
  have q4 : ∀ _ : Unit, zr M x 4 = sh := fun _ => hI.1.2.1.2.2.2.1
  have q5 : ∀ _ : Unit, zr M x 5 = sp := fun _ => hI.1.2.1.2.2.2.2.1
  have q6 : ∀ _ : Unit, zr M x 6 = x + 134 := fun _ => hI.1.2.1.2.2.2.2.2.1
  have f0 : ∀ _ : Unit, zr M (x + 3) 0 = x + 4 := fun _ => hF.2.2.1
  have fi : ∀ i, i < 25 → zr M (x + 4) i = x + 5 + 4 * i := fun i hi => (hF.2.2.2 i hi).1
  have fs9 : ∀ i, i < 25 → pSh Γ M.2.2 (x + 5 + 4 * i) := fun i hi => (hF.2.2.2 i hi).2
  have hur := hI.2.2.2.2.2.1 hg
  have hup := mPs_fit hur.2.2
  have hsc := fs9 c (by omega)
  refine g_aload_n (q := 1) hx d_Sr_edit_0 rfl rfl ?_
  refine g_getz (q := 4) hx d_Sr_edit_1 rfl fl_Sr_25 h0 hgz ?_
  refine g_if_ne (q := 7) (t := 17) hx d_Sr_edit_4 rfl rfl (zb_ne0 (by omega)) (fun h4 => ?_) (fun h4 => ?_)
  · refine g_aload_n (q := 18) hx d_Sr_edit_17 rfl rfl ?_
    refine g_geto (q := 21) hx d_Sr_edit_18 rfl fl_Sr_21 h0 (q1 ()) (by first | exact Nat.succ_ne_zero _ | omega) ?_
    refine g_geta (q := 24) hx d_Sr_edit_21 rfl fl_Sr_62 hf0 (f0 ()) (by first | exact Nat.succ_ne_zero _ | omega) ?_
    refine g_aload_n (q := 25) hx d_Sr_edit_24 rfl rfl ?_
    refine g_geto (q := 28) hx d_Sr_edit_25 rfl fl_Sr_21 h0 (q1 ()) (by first | exact Nat.succ_ne_zero _ | omega) ?_
    refine g_geti (q := 31) hx d_Sr_edit_28 rfl fl_Sr_72 hf0 hcz ?_
    refine g_aald (q := 32) hx d_Sr_edit_31 rfl hf1 rfl (by omega) (by decide) (fi c (by omega)) (by omega) ?_
    refine g_astore_n (q := 33) (lc' := [(3, _), (0, _), (1, _), (2, _)]) hx d_Sr_edit_32 rfl (by decide) rfl ?_
    refine g_aload_n (q := 34) hx d_Sr_edit_33 rfl rfl ?_
    refine g_aload_n (q := 35) hx d_Sr_edit_34 rfl rfl ?_
    refine g_geto (q := 38) hx d_Sr_edit_35 rfl fl_Sr_12 h0 (q0 ()) (by first | exact Nat.succ_ne_zero _ | omega) ?_
    refine g_iload_n (q := 39) hx d_Sr_edit_38 rfl rfl ?_
    refine g_iload_n (q := 40) hx d_Sr_edit_39 rfl rfl ?_
    refine g_ci (q := 43) (zrunV hx d_Sr_edit_40 lk_Sr_101 rfl rfl hsc.1.1 rfl rfl (Nat.le_of_ble_eq_true rfl) (by decide) (by omega) (by omega) (c_Rd_fits _ E Γ n _ (x + 5 + 4 * c) (x + 1) len ref ur y z hsc hRs hur.1 hI.2.1 hup)) rfl (fun r40 M1 p40 => ?_)
    obtain ⟨e40, p40⟩ := p40
    subst M1
    obtain rfl : r40 = nI 0 := (p40.resolve_left (fun q => hz q.2)).1
    refine g_if_ne (q := 46) (t := 56) hx d_Sr_edit_43 rfl rfl (zb_ne0 (by omega)) (fun h43 => ?_) (fun h43 => ?_)
    · exact absurd h43 (by omega)
    · exact g_thr (post := (fun M' => M' = M)) (ik := 65) (is := 105) (ic := 69) hx htr hno d_Sr_edit_46 d_Sr_edit_49 d_Sr_edit_50 d_Sr_edit_52 d_Sr_edit_55 thr_IA zs_105 (by omega) (by decide) (by decide) (Nat.le_of_ble_eq_true rfl) rfl hQ
  · exact absurd (by omega) h4
set_option maxHeartbeats 4000000 in
set_option maxRecDepth 100000 in
theorem c_Sr_edit3 (l : Launch) (hl : l.stackTraces = false) (E : zE) (Γ : zG) (n : Nat) (M : zM) (x sh sp : Nat) (len c g k size : Nat) (ref arch : Nat → Nat) (fs hs : Nat → mRd) (ur : mRd) (hI : pI Γ M x sh sp len c g k size ref arch fs hs ur) (kk v : Nat) (hg : g = 1) (hk : kk < 4) (hv : v < 2 ^ 31) (hz : mFit ref len (ur.1 + mPs ur.2) (kk, v)) (hz2 : ¬ mRoom ur.2 (kk, v)) : zCx l E Y_Sr_edit 7 (1, 6) [.ref x, .int (nI kk), .int (nI v)] Γ n M "java/lang/UnsupportedOperationException" (n + 1) (fun M' => M' = M) := by
  refine zCx.of [(0, .ref x), (1, .int (nI kk)), (2, .int (nI v))] (by decide) (Nat.le_of_ble_eq_true rfl) rfl (fun f hfl hx hno hQ => ?_)
  have htr : (zll f.1).stackTraces = false := by rw [hfl]; exact hl
  have h0 := hI.1.1.1
  have hx0 := hI.1.1.2
  have hsp := hI.1.2.2.1
  have hc24 := hI.2.2.1.2
  have hg1 := hI.2.2.2.2.1.2
  have hk3 := hI.2.2.2.2.2.2.1.2
  have hl160 := hI.2.1.2.2.1
  have hRs := hI.1.2.2.2.1
  have hF := hI.1.2.2.2.2.1
  have hf0 := hF.1
  have hf1 := hF.2.1
  have hA := hI.1.2.2.2.2.2.2.2.1
  have hcz := hI.2.2.1.1
  have hgz := hI.2.2.2.2.1.1
  have q0 : ∀ _ : Unit, zr M x 0 = x + 1 := fun _ => hI.1.2.1.1
  have q1 : ∀ _ : Unit, zr M x 1 = x + 3 := fun _ => hI.1.2.1.2.1
  have q4 : ∀ _ : Unit, zr M x 4 = sh := fun _ => hI.1.2.1.2.2.2.1
  have q5 : ∀ _ : Unit, zr M x 5 = sp := fun _ => hI.1.2.1.2.2.2.2.1
  have q6 : ∀ _ : Unit, zr M x 6 = x + 134 := fun _ => hI.1.2.1.2.2.2.2.2.1
  have f0 : ∀ _ : Unit, zr M (x + 3) 0 = x + 4 := fun _ => hF.2.2.1
  have fi : ∀ i, i < 25 → zr M (x + 4) i = x + 5 + 4 * i := fun i hi => (hF.2.2.2 i hi).1
  have fs9 : ∀ i, i < 25 → pSh Γ M.2.2 (x + 5 + 4 * i) := fun i hi => (hF.2.2.2 i hi).2
  have hur := hI.2.2.2.2.2.1 hg
  have hup := mPs_fit hur.2.2
  have hsc := fs9 c (by omega)
  have hv9 : v ≤ 1024 := by
    have h9 := hz
    unfold mFit at h9
    dsimp only at h9
    omega
  refine g_aload_n (q := 1) hx d_Sr_edit_0 rfl rfl ?_
  refine g_getz (q := 4) hx d_Sr_edit_1 rfl fl_Sr_25 h0 hgz ?_
  refine g_if_ne (q := 7) (t := 17) hx d_Sr_edit_4 rfl rfl (zb_ne0 (by omega)) (fun h4 => ?_) (fun h4 => ?_)
  · refine g_aload_n (q := 18) hx d_Sr_edit_17 rfl rfl ?_
    refine g_geto (q := 21) hx d_Sr_edit_18 rfl fl_Sr_21 h0 (q1 ()) (by first | exact Nat.succ_ne_zero _ | omega) ?_
    refine g_geta (q := 24) hx d_Sr_edit_21 rfl fl_Sr_62 hf0 (f0 ()) (by first | exact Nat.succ_ne_zero _ | omega) ?_
    refine g_aload_n (q := 25) hx d_Sr_edit_24 rfl rfl ?_
    refine g_geto (q := 28) hx d_Sr_edit_25 rfl fl_Sr_21 h0 (q1 ()) (by first | exact Nat.succ_ne_zero _ | omega) ?_
    refine g_geti (q := 31) hx d_Sr_edit_28 rfl fl_Sr_72 hf0 hcz ?_
    refine g_aald (q := 32) hx d_Sr_edit_31 rfl hf1 rfl (by omega) (by decide) (fi c (by omega)) (by omega) ?_
    refine g_astore_n (q := 33) (lc' := [(3, _), (0, _), (1, _), (2, _)]) hx d_Sr_edit_32 rfl (by decide) rfl ?_
    refine g_aload_n (q := 34) hx d_Sr_edit_33 rfl rfl ?_
    refine g_aload_n (q := 35) hx d_Sr_edit_34 rfl rfl ?_
    refine g_geto (q := 38) hx d_Sr_edit_35 rfl fl_Sr_12 h0 (q0 ()) (by first | exact Nat.succ_ne_zero _ | omega) ?_
    refine g_iload_n (q := 39) hx d_Sr_edit_38 rfl rfl ?_
    refine g_iload_n (q := 40) hx d_Sr_edit_39 rfl rfl ?_
    refine g_ci (q := 43) (zrunV hx d_Sr_edit_40 lk_Sr_101 rfl rfl hsc.1.1 rfl rfl (Nat.le_of_ble_eq_true rfl) (by decide) (by omega) (by omega) (c_Rd_fits _ E Γ n _ (x + 5 + 4 * c) (x + 1) len ref ur (nI kk) (nI v) hsc hRs hur.1 hI.2.1 hup)) rfl (fun r40 M1 p40 => ?_)
    obtain ⟨e40, p40⟩ := p40
    subst M1
    obtain rfl : r40 = nI 1 := (p40.resolve_right (fun q => q.2 ⟨kk, v, hv, rfl, hk, rfl, hz⟩)).1
    refine g_if_ne (q := 46) (t := 56) hx d_Sr_edit_43 rfl rfl (zb_ne0 (by omega)) (fun h43 => ?_) (fun h43 => ?_)
    · refine g_aload_n (q := 57) hx d_Sr_edit_56 rfl rfl ?_
      refine g_iload_n (q := 58) hx d_Sr_edit_57 rfl rfl ?_
      refine g_iload_n (q := 59) hx d_Sr_edit_58 rfl rfl ?_
      refine g_ci (q := 62) (zrunV hx d_Sr_edit_59 lk_Sr_107 rfl rfl hsc.1.1 rfl rfl (Nat.le_of_ble_eq_true rfl) (by decide) (by omega) (by omega) (c_Rd_hasRoom _ E Γ n _ (x + 5 + 4 * c) ur kk v hsc hur.1 hur.2.2.2.2.2 hur.2.2.2.2.1 hk hv9 (mFits_ks hur.2.2.2.1))) rfl (fun r59 M2 p59 => ?_)
      obtain ⟨e59, p59⟩ := p59
      subst M2
      obtain rfl : r59 = nI 0 := (p59.resolve_left (fun q => hz2 q.2)).1
      refine g_if_ne (q := 65) (t := 75) hx d_Sr_edit_62 rfl rfl (zb_ne0 (by omega)) (fun h62 => ?_) (fun h62 => ?_)
      · exact absurd h62 (by omega)
      · exact g_thr (post := (fun M' => M' = M)) (ik := 82) (is := 111) (ic := 86) hx htr hno d_Sr_edit_65 d_Sr_edit_68 d_Sr_edit_69 d_Sr_edit_71 d_Sr_edit_74 thr_UO zs_111 (by omega) (by decide) (by decide) (Nat.le_of_ble_eq_true rfl) rfl hQ
    · exact absurd h43 (by omega)
  · exact absurd (by omega) h4
set_option maxHeartbeats 4000000 in
set_option maxRecDepth 100000 in
theorem c_Sr_edit0 (l : Launch) (E : zE) (Γ : zG) (n : Nat) (M : zM) (x sh sp : Nat) (len c g k size : Nat) (ref arch : Nat → Nat) (fs hs : Nat → mRd) (ur : mRd) (hI : pI Γ M x sh sp len c g k size ref arch fs hs ur) (kk v : Nat) (hg : g = 1) (hk : kk < 4) (hv : v < 2 ^ 31) (hz : mFit ref len (ur.1 + mPs ur.2) (kk, v)) (hz2 : mRoom ur.2 (kk, v)) : zCt l E Y_Sr_edit 7 (0, 0) [.ref x, .int (nI kk), .int (nI v)] Γ n M (zPv Γ n (fun M' => kX x M M' ∧ pI Γ M' x sh sp len c g k size ref arch fs hs (ur.1, mAdd ur.2 (kk, v)))) := by
  refine zCt.of [(0, .ref x), (1, .int (nI kk)), (2, .int (nI v))] (by decide) (Nat.le_of_ble_eq_true rfl) rfl (fun f hfl hx hQ => ?_)
  have h0 := hI.1.1.1
  have hx0 := hI.1.1.2
  have hsp := hI.1.2.2.1
  have hc24 := hI.2.2.1.2
  have hg1 := hI.2.2.2.2.1.2
  have hk3 := hI.2.2.2.2.2.2.1.2
  have hl160 := hI.2.1.2.2.1
  have hRs := hI.1.2.2.2.1
  have hF := hI.1.2.2.2.2.1
  have hf0 := hF.1
  have hf1 := hF.2.1
  have hA := hI.1.2.2.2.2.2.2.2.1
  have hcz := hI.2.2.1.1
  have hgz := hI.2.2.2.2.1.1
  have q0 : ∀ _ : Unit, zr M x 0 = x + 1 := fun _ => hI.1.2.1.1
  have q1 : ∀ _ : Unit, zr M x 1 = x + 3 := fun _ => hI.1.2.1.2.1
  have q4 : ∀ _ : Unit, zr M x 4 = sh := fun _ => hI.1.2.1.2.2.2.1
  have q5 : ∀ _ : Unit, zr M x 5 = sp := fun _ => hI.1.2.1.2.2.2.2.1
  have q6 : ∀ _ : Unit, zr M x 6 = x + 134 := fun _ => hI.1.2.1.2.2.2.2.2.1
  have f0 : ∀ _ : Unit, zr M (x + 3) 0 = x + 4 := fun _ => hF.2.2.1
  have fi : ∀ i, i < 25 → zr M (x + 4) i = x + 5 + 4 * i := fun i hi => (hF.2.2.2 i hi).1
  have fs9 : ∀ i, i < 25 → pSh Γ M.2.2 (x + 5 + 4 * i) := fun i hi => (hF.2.2.2 i hi).2
  have hur := hI.2.2.2.2.2.1 hg
  have hup := mPs_fit hur.2.2
  have hsc := fs9 c (by omega)
  have hv9 : v ≤ 1024 := by
    have h9 := hz
    unfold mFit at h9
    dsimp only at h9
    omega
  refine g_aload_n (q := 1) hx d_Sr_edit_0 rfl rfl ?_
  refine g_getz (q := 4) hx d_Sr_edit_1 rfl fl_Sr_25 h0 hgz ?_
  refine g_if_ne (q := 7) (t := 17) hx d_Sr_edit_4 rfl rfl (zb_ne0 (by omega)) (fun h4 => ?_) (fun h4 => ?_)
  · refine g_aload_n (q := 18) hx d_Sr_edit_17 rfl rfl ?_
    refine g_geto (q := 21) hx d_Sr_edit_18 rfl fl_Sr_21 h0 (q1 ()) (by first | exact Nat.succ_ne_zero _ | omega) ?_
    refine g_geta (q := 24) hx d_Sr_edit_21 rfl fl_Sr_62 hf0 (f0 ()) (by first | exact Nat.succ_ne_zero _ | omega) ?_
    refine g_aload_n (q := 25) hx d_Sr_edit_24 rfl rfl ?_
    refine g_geto (q := 28) hx d_Sr_edit_25 rfl fl_Sr_21 h0 (q1 ()) (by first | exact Nat.succ_ne_zero _ | omega) ?_
    refine g_geti (q := 31) hx d_Sr_edit_28 rfl fl_Sr_72 hf0 hcz ?_
    refine g_aald (q := 32) hx d_Sr_edit_31 rfl hf1 rfl (by omega) (by decide) (fi c (by omega)) (by omega) ?_
    refine g_astore_n (q := 33) (lc' := [(3, _), (0, _), (1, _), (2, _)]) hx d_Sr_edit_32 rfl (by decide) rfl ?_
    refine g_aload_n (q := 34) hx d_Sr_edit_33 rfl rfl ?_
    refine g_aload_n (q := 35) hx d_Sr_edit_34 rfl rfl ?_
    refine g_geto (q := 38) hx d_Sr_edit_35 rfl fl_Sr_12 h0 (q0 ()) (by first | exact Nat.succ_ne_zero _ | omega) ?_
    refine g_iload_n (q := 39) hx d_Sr_edit_38 rfl rfl ?_
    refine g_iload_n (q := 40) hx d_Sr_edit_39 rfl rfl ?_
    refine g_ci (q := 43) (zrunV hx d_Sr_edit_40 lk_Sr_101 rfl rfl hsc.1.1 rfl rfl (Nat.le_of_ble_eq_true rfl) (by decide) (by omega) (by omega) (c_Rd_fits _ E Γ n _ (x + 5 + 4 * c) (x + 1) len ref ur (nI kk) (nI v) hsc hRs hur.1 hI.2.1 hup)) rfl (fun r40 M1 p40 => ?_)
    obtain ⟨e40, p40⟩ := p40
    subst M1
    obtain rfl : r40 = nI 1 := (p40.resolve_right (fun q => q.2 ⟨kk, v, hv, rfl, hk, rfl, hz⟩)).1
    refine g_if_ne (q := 46) (t := 56) hx d_Sr_edit_43 rfl rfl (zb_ne0 (by omega)) (fun h43 => ?_) (fun h43 => ?_)
    · refine g_aload_n (q := 57) hx d_Sr_edit_56 rfl rfl ?_
      refine g_iload_n (q := 58) hx d_Sr_edit_57 rfl rfl ?_
      refine g_iload_n (q := 59) hx d_Sr_edit_58 rfl rfl ?_
      refine g_ci (q := 62) (zrunV hx d_Sr_edit_59 lk_Sr_107 rfl rfl hsc.1.1 rfl rfl (Nat.le_of_ble_eq_true rfl) (by decide) (by omega) (by omega) (c_Rd_hasRoom _ E Γ n _ (x + 5 + 4 * c) ur kk v hsc hur.1 hur.2.2.2.2.2 hur.2.2.2.2.1 hk hv9 (mFits_ks hur.2.2.2.1))) rfl (fun r59 M2 p59 => ?_)
      obtain ⟨e59, p59⟩ := p59
      subst M2
      obtain rfl : r59 = nI 1 := (p59.resolve_right (fun q => q.2 hz2)).1
      refine g_if_ne (q := 65) (t := 75) hx d_Sr_edit_62 rfl rfl (zb_ne0 (by omega)) (fun h62 => ?_) (fun h62 => ?_)
      · refine g_aload_n (q := 76) hx d_Sr_edit_75 rfl rfl ?_
        refine g_aload_n (q := 77) hx d_Sr_edit_76 rfl rfl ?_
        refine g_geto (q := 80) hx d_Sr_edit_77 rfl fl_Sr_12 h0 (q0 ()) (by first | exact Nat.succ_ne_zero _ | omega) ?_
        refine g_iload_n (q := 81) hx d_Sr_edit_80 rfl rfl ?_
        refine g_iload_n (q := 82) hx d_Sr_edit_81 rfl rfl ?_
        refine g_cv (q := 85) (zrunV hx d_Sr_edit_82 lk_Sr_113 rfl rfl hsc.1.1 rfl rfl (Nat.le_of_ble_eq_true rfl) (by decide) (by omega) (by omega) (c_Rd_add _ E Γ n _ (x + 5 + 4 * c) (x + 1) len ref ur kk v hsc hRs hur.1 hI.2.1 hz hz2 hur.2.2.2.2.2 (mFits_ks hur.2.2.2.1))) rfl (fun M3 p82 => ?_)
        obtain ⟨z3, r3, b3⟩ := p82
        exact g_vret hx d_Sr_edit_85 rfl hQ ⟨Nat.le_refl _, Nat.le_refl _⟩ ⟨rfl, rfl, rfl, kX.on z3 (fun a q => by omega), by
              obtain ⟨i1, i2, i3, i4, i5, i6, i7, i8, i9⟩ := hI
              have e2 : ∀ a, (a < x + 5 + 4 * c ∨ x + 5 + 4 * c + 3 < a) → M3.1 a = M.1 a := fun a q => z3.2 a (by omega)
              have e9 : ∀ a j, (a < x + 5 + 4 * c ∨ x + 5 + 4 * c + 3 < a) → zi M3 a j = zi M a j := fun a j q => by
                show M3.1 a j = M.1 a j
                rw [e2 a q]
              exact ⟨by rw [z3.r]; exact i1, i2.kept (e2 _ (by omega)) (e2 _ (by omega)), ⟨(e9 _ _ (by omega)).trans i3.1, i3.2⟩, fun i hi => (i4 i hi).kept (fun b q1 q2 => e2 b (by omega)), ⟨(e9 _ _ (by omega)).trans i5.1, i5.2⟩, fun _ => ⟨r3, b3 hur.2.1, mAdd_ok hur.2.2 hz hz2⟩, ⟨(e9 _ _ (by omega)).trans i7.1, i7.2⟩, fun i hi => (i8 i hi).kept (fun b q1 q2 => e2 b (by omega)), i9.kept (e2 _ (by omega)) (e2 _ (by omega))⟩⟩
      · exact absurd h62 (by omega)
    · exact absurd h43 (by omega)
  · exact absurd (by omega) h4
set_option maxHeartbeats 4000000 in
set_option maxRecDepth 100000 in
theorem c_Sr_finish1 (l : Launch) (hl : l.stackTraces = false) (E : zE) (Γ : zG) (n : Nat) (M : zM) (x sh sp : Nat) (len c g k size : Nat) (ref arch : Nat → Nat) (fs hs : Nat → mRd) (ur : mRd) (hI : pI Γ M x sh sp len c g k size ref arch fs hs ur) (hz : g = 1 → mBc ur.2 = 0) : zCx l E Y_Sr_finish 7 (1, 6) [.ref x] Γ n M "java/lang/IllegalStateException" (n + 1) (fun M' => M' = M) := by
  refine zCx.of [(0, .ref x)] (by decide) (Nat.le_of_ble_eq_true rfl) rfl (fun f hfl hx hno hQ => ?_)
  have htr : (zll f.1).stackTraces = false := by rw [hfl]; exact hl
  have h0 := hI.1.1.1
  have hx0 := hI.1.1.2
  have hsp := hI.1.2.2.1
  have hc24 := hI.2.2.1.2
  have hg1 := hI.2.2.2.2.1.2
  have hk3 := hI.2.2.2.2.2.2.1.2
  have hl160 := hI.2.1.2.2.1
  have hRs := hI.1.2.2.2.1
  have hF := hI.1.2.2.2.2.1
  have hf0 := hF.1
  have hf1 := hF.2.1
  have hA := hI.1.2.2.2.2.2.2.2.1
  have hcz := hI.2.2.1.1
  have hgz := hI.2.2.2.2.1.1
  have q0 : ∀ _ : Unit, zr M x 0 = x + 1 := fun _ => hI.1.2.1.1
  have q1 : ∀ _ : Unit, zr M x 1 = x + 3 := fun _ => hI.1.2.1.2.1
  have q4 : ∀ _ : Unit, zr M x 4 = sh := fun _ => hI.1.2.1.2.2.2.1
  have q5 : ∀ _ : Unit, zr M x 5 = sp := fun _ => hI.1.2.1.2.2.2.2.1
  have q6 : ∀ _ : Unit, zr M x 6 = x + 134 := fun _ => hI.1.2.1.2.2.2.2.2.1
  have f0 : ∀ _ : Unit, zr M (x + 3) 0 = x + 4 := fun _ => hF.2.2.1
  have fi : ∀ i, i < 25 → zr M (x + 4) i = x + 5 + 4 * i := fun i hi => (hF.2.2.2 i hi).1
  have fs9 : ∀ i, i < 25 → pSh Γ M.2.2 (x + 5 + 4 * i) := fun i hi => (hF.2.2.2 i hi).2
  refine g_aload_n (q := 1) hx d_Sr_finish_0 rfl rfl ?_
  refine g_getz (q := 4) hx d_Sr_finish_1 rfl fl_Sr_25 h0 hgz ?_
  refine g_if_eq (q := 7) (t := 28) hx d_Sr_finish_4 rfl rfl (zb_eq0 (by omega)) (fun h4 => ?_) (fun h4 => ?_)
  · exact g_thr (post := (fun M' => M' = M)) (ik := 76) (is := 120) (ic := 80) hx htr hno d_Sr_finish_28 d_Sr_finish_31 d_Sr_finish_32 d_Sr_finish_34 d_Sr_finish_37 thr_IS zs_120 (by omega) (by decide) (by decide) (Nat.le_of_ble_eq_true rfl) rfl hQ
  · have hb20 := (hI.2.2.2.2.2.1 (by omega)).2.2.2.2.1
    have hz9 := hz (by omega)
    refine g_aload_n (q := 8) hx d_Sr_finish_7 rfl rfl ?_
    refine g_geto (q := 11) hx d_Sr_finish_8 rfl fl_Sr_21 h0 (q1 ()) (by first | exact Nat.succ_ne_zero _ | omega) ?_
    refine g_geta (q := 14) hx d_Sr_finish_11 rfl fl_Sr_62 hf0 (f0 ()) (by first | exact Nat.succ_ne_zero _ | omega) ?_
    refine g_aload_n (q := 15) hx d_Sr_finish_14 rfl rfl ?_
    refine g_geto (q := 18) hx d_Sr_finish_15 rfl fl_Sr_21 h0 (q1 ()) (by first | exact Nat.succ_ne_zero _ | omega) ?_
    refine g_geti (q := 21) hx d_Sr_finish_18 rfl fl_Sr_72 hf0 hcz ?_
    refine g_aald (q := 22) hx d_Sr_finish_21 rfl hf1 rfl (by omega) (by decide) (fi c (by omega)) (by omega) ?_
    refine g_geti (q := 25) hx d_Sr_finish_22 rfl fl_Sr_117 (fs9 c (by omega)).1.1 (hI.2.2.2.2.2.1 (by omega)).1.2.2.1 ?_
    refine g_if_ne (q := 28) (t := 38) hx d_Sr_finish_25 rfl rfl (zb_ne0 (by omega)) (fun h25 => ?_) (fun h25 => ?_)
    · exact absurd h25 (by omega)
    · exact g_thr (post := (fun M' => M' = M)) (ik := 76) (is := 120) (ic := 80) hx htr hno d_Sr_finish_28 d_Sr_finish_31 d_Sr_finish_32 d_Sr_finish_34 d_Sr_finish_37 thr_IS zs_120 (by omega) (by decide) (by decide) (Nat.le_of_ble_eq_true rfl) rfl hQ
set_option maxHeartbeats 4000000 in
set_option maxRecDepth 100000 in
theorem c_Sr_finish2 (l : Launch) (hl : l.stackTraces = false) (E : zE) (Γ : zG) (n : Nat) (M : zM) (x sh sp : Nat) (len c g k size : Nat) (ref arch : Nat → Nat) (fs hs : Nat → mRd) (ur : mRd) (hI : pI Γ M x sh sp len c g k size ref arch fs hs ur) (hg : g = 1) (hz : 0 < mBc ur.2) (hc : c = 24) : zCx l E Y_Sr_finish 7 (1, 6) [.ref x] Γ n M "java/lang/UnsupportedOperationException" (n + 1) (fun M' => M' = M) := by
  refine zCx.of [(0, .ref x)] (by decide) (Nat.le_of_ble_eq_true rfl) rfl (fun f hfl hx hno hQ => ?_)
  have htr : (zll f.1).stackTraces = false := by rw [hfl]; exact hl
  have h0 := hI.1.1.1
  have hx0 := hI.1.1.2
  have hsp := hI.1.2.2.1
  have hc24 := hI.2.2.1.2
  have hg1 := hI.2.2.2.2.1.2
  have hk3 := hI.2.2.2.2.2.2.1.2
  have hl160 := hI.2.1.2.2.1
  have hRs := hI.1.2.2.2.1
  have hF := hI.1.2.2.2.2.1
  have hf0 := hF.1
  have hf1 := hF.2.1
  have hA := hI.1.2.2.2.2.2.2.2.1
  have hcz := hI.2.2.1.1
  have hgz := hI.2.2.2.2.1.1
  have q0 : ∀ _ : Unit, zr M x 0 = x + 1 := fun _ => hI.1.2.1.1
  have q1 : ∀ _ : Unit, zr M x 1 = x + 3 := fun _ => hI.1.2.1.2.1
  have q4 : ∀ _ : Unit, zr M x 4 = sh := fun _ => hI.1.2.1.2.2.2.1
  have q5 : ∀ _ : Unit, zr M x 5 = sp := fun _ => hI.1.2.1.2.2.2.2.1
  have q6 : ∀ _ : Unit, zr M x 6 = x + 134 := fun _ => hI.1.2.1.2.2.2.2.2.1
  have f0 : ∀ _ : Unit, zr M (x + 3) 0 = x + 4 := fun _ => hF.2.2.1
  have fi : ∀ i, i < 25 → zr M (x + 4) i = x + 5 + 4 * i := fun i hi => (hF.2.2.2 i hi).1
  have fs9 : ∀ i, i < 25 → pSh Γ M.2.2 (x + 5 + 4 * i) := fun i hi => (hF.2.2.2 i hi).2
  have hb20 := (hI.2.2.2.2.2.1 hg).2.2.2.2.1
  refine g_aload_n (q := 1) hx d_Sr_finish_0 rfl rfl ?_
  refine g_getz (q := 4) hx d_Sr_finish_1 rfl fl_Sr_25 h0 hgz ?_
  refine g_if_eq (q := 7) (t := 28) hx d_Sr_finish_4 rfl rfl (zb_eq0 (by omega)) (fun h4 => ?_) (fun h4 => ?_)
  · exact absurd h4 (by omega)
  · refine g_aload_n (q := 8) hx d_Sr_finish_7 rfl rfl ?_
    refine g_geto (q := 11) hx d_Sr_finish_8 rfl fl_Sr_21 h0 (q1 ()) (by first | exact Nat.succ_ne_zero _ | omega) ?_
    refine g_geta (q := 14) hx d_Sr_finish_11 rfl fl_Sr_62 hf0 (f0 ()) (by first | exact Nat.succ_ne_zero _ | omega) ?_
    refine g_aload_n (q := 15) hx d_Sr_finish_14 rfl rfl ?_
    refine g_geto (q := 18) hx d_Sr_finish_15 rfl fl_Sr_21 h0 (q1 ()) (by first | exact Nat.succ_ne_zero _ | omega) ?_
    refine g_geti (q := 21) hx d_Sr_finish_18 rfl fl_Sr_72 hf0 hcz ?_
    refine g_aald (q := 22) hx d_Sr_finish_21 rfl hf1 rfl (by omega) (by decide) (fi c (by omega)) (by omega) ?_
    refine g_geti (q := 25) hx d_Sr_finish_22 rfl fl_Sr_117 (fs9 c (by omega)).1.1 (hI.2.2.2.2.2.1 (by omega)).1.2.2.1 ?_
    refine g_if_ne (q := 28) (t := 38) hx d_Sr_finish_25 rfl rfl (zb_ne0 (by omega)) (fun h25 => ?_) (fun h25 => ?_)
    · refine g_aload_n (q := 39) hx d_Sr_finish_38 rfl rfl ?_
      refine g_geto (q := 42) hx d_Sr_finish_39 rfl fl_Sr_21 h0 (q1 ()) (by first | exact Nat.succ_ne_zero _ | omega) ?_
      refine g_geti (q := 45) hx d_Sr_finish_42 rfl fl_Sr_72 hf0 hcz ?_
      refine g_bipush (q := 47) (v := nI 24) hx d_Sr_finish_45 rfl (by decide) ?_
      refine g_icmp_lt (q := 50) (t := 60) hx d_Sr_finish_47 rfl rfl (nI_ltI (by omega) (by omega)) (fun h47 => ?_) (fun h47 => ?_)
      · exact absurd h47 (by omega)
      · exact g_thr (post := (fun M' => M' = M)) (ik := 82) (is := 122) (ic := 86) hx htr hno d_Sr_finish_50 d_Sr_finish_53 d_Sr_finish_54 d_Sr_finish_56 d_Sr_finish_59 thr_UO zs_122 (by omega) (by decide) (by decide) (Nat.le_of_ble_eq_true rfl) rfl hQ
    · exact absurd (by omega) h25
set_option maxHeartbeats 4000000 in
set_option maxRecDepth 100000 in
theorem c_Sr_finish0 (l : Launch) (E : zE) (Γ : zG) (n : Nat) (M : zM) (x sh sp : Nat) (len c g k size : Nat) (ref arch : Nat → Nat) (fs hs : Nat → mRd) (ur : mRd) (hI : pI Γ M x sh sp len c g k size ref arch fs hs ur) (hg : g = 1) (hz : 0 < mBc ur.2) (hc : c < 24) : zCt l E Y_Sr_finish 7 (0, 0) [.ref x] Γ n M (zPi Γ n (fun v M' => v = nI c ∧ kX x M M' ∧ pI Γ M' x sh sp len (c + 1) 0 k size ref arch (fun i => if i = c then ur else fs i) hs ur)) := by
  refine zCt.of [(0, .ref x)] (by decide) (Nat.le_of_ble_eq_true rfl) rfl (fun f hfl hx hQ => ?_)
  have h0 := hI.1.1.1
  have hx0 := hI.1.1.2
  have hsp := hI.1.2.2.1
  have hc24 := hI.2.2.1.2
  have hg1 := hI.2.2.2.2.1.2
  have hk3 := hI.2.2.2.2.2.2.1.2
  have hl160 := hI.2.1.2.2.1
  have hRs := hI.1.2.2.2.1
  have hF := hI.1.2.2.2.2.1
  have hf0 := hF.1
  have hf1 := hF.2.1
  have hA := hI.1.2.2.2.2.2.2.2.1
  have hcz := hI.2.2.1.1
  have hgz := hI.2.2.2.2.1.1
  have q0 : ∀ _ : Unit, zr M x 0 = x + 1 := fun _ => hI.1.2.1.1
  have q1 : ∀ _ : Unit, zr M x 1 = x + 3 := fun _ => hI.1.2.1.2.1
  have q4 : ∀ _ : Unit, zr M x 4 = sh := fun _ => hI.1.2.1.2.2.2.1
  have q5 : ∀ _ : Unit, zr M x 5 = sp := fun _ => hI.1.2.1.2.2.2.2.1
  have q6 : ∀ _ : Unit, zr M x 6 = x + 134 := fun _ => hI.1.2.1.2.2.2.2.2.1
  have f0 : ∀ _ : Unit, zr M (x + 3) 0 = x + 4 := fun _ => hF.2.2.1
  have fi : ∀ i, i < 25 → zr M (x + 4) i = x + 5 + 4 * i := fun i hi => (hF.2.2.2 i hi).1
  have fs9 : ∀ i, i < 25 → pSh Γ M.2.2 (x + 5 + 4 * i) := fun i hi => (hF.2.2.2 i hi).2
  have hb20 := (hI.2.2.2.2.2.1 hg).2.2.2.2.1
  refine g_aload_n (q := 1) hx d_Sr_finish_0 rfl rfl ?_
  refine g_getz (q := 4) hx d_Sr_finish_1 rfl fl_Sr_25 h0 hgz ?_
  refine g_if_eq (q := 7) (t := 28) hx d_Sr_finish_4 rfl rfl (zb_eq0 (by omega)) (fun h4 => ?_) (fun h4 => ?_)
  · exact absurd h4 (by omega)
  · refine g_aload_n (q := 8) hx d_Sr_finish_7 rfl rfl ?_
    refine g_geto (q := 11) hx d_Sr_finish_8 rfl fl_Sr_21 h0 (q1 ()) (by first | exact Nat.succ_ne_zero _ | omega) ?_
    refine g_geta (q := 14) hx d_Sr_finish_11 rfl fl_Sr_62 hf0 (f0 ()) (by first | exact Nat.succ_ne_zero _ | omega) ?_
    refine g_aload_n (q := 15) hx d_Sr_finish_14 rfl rfl ?_
    refine g_geto (q := 18) hx d_Sr_finish_15 rfl fl_Sr_21 h0 (q1 ()) (by first | exact Nat.succ_ne_zero _ | omega) ?_
    refine g_geti (q := 21) hx d_Sr_finish_18 rfl fl_Sr_72 hf0 hcz ?_
    refine g_aald (q := 22) hx d_Sr_finish_21 rfl hf1 rfl (by omega) (by decide) (fi c (by omega)) (by omega) ?_
    refine g_geti (q := 25) hx d_Sr_finish_22 rfl fl_Sr_117 (fs9 c (by omega)).1.1 (hI.2.2.2.2.2.1 (by omega)).1.2.2.1 ?_
    refine g_if_ne (q := 28) (t := 38) hx d_Sr_finish_25 rfl rfl (zb_ne0 (by omega)) (fun h25 => ?_) (fun h25 => ?_)
    · refine g_aload_n (q := 39) hx d_Sr_finish_38 rfl rfl ?_
      refine g_geto (q := 42) hx d_Sr_finish_39 rfl fl_Sr_21 h0 (q1 ()) (by first | exact Nat.succ_ne_zero _ | omega) ?_
      refine g_geti (q := 45) hx d_Sr_finish_42 rfl fl_Sr_72 hf0 hcz ?_
      refine g_bipush (q := 47) (v := nI 24) hx d_Sr_finish_45 rfl (by decide) ?_
      refine g_icmp_lt (q := 50) (t := 60) hx d_Sr_finish_47 rfl rfl (nI_ltI (by omega) (by omega)) (fun h47 => ?_) (fun h47 => ?_)
      · refine g_aload_n (q := 61) hx d_Sr_finish_60 rfl rfl ?_
        refine g_iconst (q := 62) (v := nI 0) hx d_Sr_finish_61 rfl (by decide) ?_
        refine g_putz (q := 65) hx d_Sr_finish_62 rfl fl_Sr_25 nf_6_2 h0 (Or.inl rfl) ?_
        refine g_aload_n (q := 66) hx d_Sr_finish_65 rfl rfl ?_
        refine g_geto (q := 69) hx d_Sr_finish_66 rfl fl_Sr_21 h0 (q1 ()) (by first | exact Nat.succ_ne_zero _ | omega) ?_
        refine g_dup (q := 70) hx d_Sr_finish_69 rfl rfl ?_
        refine g_geti (q := 73) hx d_Sr_finish_70 rfl fl_Sr_72 hf0 ((zi_a (by omega)).trans hcz) ?_
        refine g_iconst (q := 74) (v := nI 1) hx d_Sr_finish_73 rfl (by decide) ?_
        refine g_iadd (q := 75) hx d_Sr_finish_74 rfl (nI_add _ _) ?_
        refine g_puti (q := 78) hx d_Sr_finish_75 rfl fl_Sr_72 nf_4_1 hf0 ?_
        refine g_aload_n (q := 79) hx d_Sr_finish_78 rfl rfl ?_
        refine g_geto (q := 82) hx d_Sr_finish_79 rfl fl_Sr_21 h0 (q1 ()) (by first | exact Nat.succ_ne_zero _ | omega) ?_
        refine g_geti (q := 85) hx d_Sr_finish_82 rfl fl_Sr_72 hf0 (zi_s _ _ _ _) ?_
        refine g_iconst (q := 86) (v := nI 1) hx d_Sr_finish_85 rfl (by decide) ?_
        refine g_isub (q := 87) hx d_Sr_finish_86 rfl (pk_sub (by omega)) ?_
        exact g_iret hx d_Sr_finish_87 rfl hQ ⟨Nat.le_refl _, Nat.le_refl _⟩ ⟨_, rfl, rfl, rfl, congrArg nI (Nat.add_sub_cancel c 1), (kX.rf.si (by omega)).si (by omega), by
              obtain ⟨i1, i2, i3, i4, i5, i6, i7, i8, i9⟩ := hI
              obtain ⟨M9, hM9⟩ : ∃ M9, M9 = zsi (zsi M x 2 (nI 0)) (x + 3) 1 (nI (c + 1)) := ⟨_, rfl⟩
              rw [← hM9]
              have e2 : ∀ a, a ≠ x → a ≠ x + 3 → M9.1 a = M.1 a := fun a q1 q2 => by rw [hM9, zi_b q2, zi_b q1]
              have e1 : M9.2 = M.2 := by rw [hM9]; rfl
              have e9 : ∀ a j, a ≠ x → a ≠ x + 3 → zi M9 a j = zi M a j := fun a j q1 q2 => by
                show M9.1 a j = M.1 a j
                rw [e2 a q1 q2]
              refine ⟨by rw [e1]; exact i1, i2.kept (e2 _ (by omega) (by omega)) (e2 _ (by omega) (by omega)), ⟨by rw [hM9, zi_s], by omega⟩, fun i hi => ?_, ⟨by rw [hM9, zi_a (by omega), zi_s], Nat.zero_le _⟩, fun hg => absurd hg (by omega), ⟨(e9 _ _ (by omega) (by omega)).trans i7.1, i7.2⟩, fun i hi => (i8 i hi).kept (fun b q1 q2 => e2 b (by omega) (by omega)), i9.kept (e2 _ (by omega) (by omega)) (e2 _ (by omega) (by omega))⟩
              dsimp only
              by_cases e : i = c
              · rw [if_pos e, e]; exact (i6 hg).kept (fun b q1 q2 => e2 b (by omega) (by omega))
              · rw [if_neg e]; exact (i4 i (by omega)).kept (fun b q1 q2 => e2 b (by omega) (by omega))⟩
      · exact absurd (by omega) h47
    · exact absurd (by omega) h25
