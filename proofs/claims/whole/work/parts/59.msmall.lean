theorem z_in {y : Int32} {a b : Nat} (h1 : ¬ y < nI a) (h2 : y ≤ nI b) (hb : a < 2 ^ 30 ∧ b < 2 ^ 30) : ∃ u : Nat, a ≤ u ∧ u ≤ b ∧ y = nI u := by
  rcases pk_ix y (n := b + 1) (by omega) with h | h | ⟨u, h3, rfl⟩
  · exact absurd (i32_lt_le h (by rw [← nI_0]; exact (nI_leI (by omega) (by omega)).mpr (Nat.zero_le _))) h1
  · exact absurd h2 (i32_not_le (i32_lt_le ((nI_ltI (by omega) (by omega)).mpr (by omega)) h))
  · exact ⟨u, Nat.not_lt.mp (fun q => h1 ((nI_ltI (by omega) (by omega)).mpr q)), by omega, rfl⟩
def mRf (ref : Nat → Nat) (len : Nat) (w : Int32) : Nat → Nat := fun j => if j < len then ref j else mDig w (j - len)
def bI0 : Nat → Bool := fun i => i == 0
theorem qI.c0 {m : Nat} {M : zM} {v : Int32} {len c g k size : Nat} {ref arch : Nat → Nat} {fs hs : Nat → mRd} {ur : mRd} (q : qI M m len c g k size ref arch fs hs ur) : qI (zsi M m 0 v) m len c g k size ref arch fs hs ur := q.kp (A := bN) (I := bI0) (L := bN) (kF.rf.si rfl) rfl
theorem kM.c0 {m : Nat} {M : zM} {v : Int32} : kM m M (zsi M m 0 v) := (kF.rf (A := bN) (I := bI0) (L := bN)).si rfl |>.m
set_option maxHeartbeats 4000000 in
set_option maxRecDepth 100000 in
theorem c_Mo_thrown (l : Launch) (E : zE) (Γ : zG) (n : Nat) (M : zM) (m : Nat) (hq : qX Γ M.2.2 m) : zCt l E Y_Mo_thrown 0 (0, 0) [.ref m] Γ n M (zPi Γ n (fun v M' => v = zi M m 0 ∧ M' = M)) := by
  refine zCt.of [(0, .ref m)] (by decide) (Nat.le_of_ble_eq_true rfl) rfl (fun f hfl hx hQ => ?_)
  obtain ⟨P, hP⟩ : ∃ P, M.2.2 = P := ⟨_, rfl⟩
  rw [hP] at hq
  have hm0 := hq.m0
  refine g_aload_n (q := 1) hx d_Mo_thrown_0 rfl rfl ?_
  refine g_geti (q := 4) hx d_Mo_thrown_1 rfl fl_Mo_46 hq.g0 rfl ?_
  exact g_iret hx d_Mo_thrown_4 rfl hQ ⟨Nat.le_refl _, Nat.le_refl _⟩ ⟨_, rfl, rfl, rfl, rfl, rfl⟩
set_option maxHeartbeats 4000000 in
set_option maxRecDepth 100000 in
theorem c_Mo_reads (l : Launch) (E : zE) (Γ : zG) (n : Nat) (M : zM) (m : Nat) (len c g k size : Nat) (ref arch : Nat → Nat) (fs hs : Nat → mRd) (ur : mRd) (hq : qX Γ M.2.2 m) (hI : qI M m len c g k size ref arch fs hs ur) : zCt l E Y_Mo_reads 0 (0, 0) [.ref m] Γ n M (zPi Γ n (fun v M' => v = nI c ∧ M' = zsi M m 0 (nI 0))) := by
  refine zCt.of [(0, .ref m)] (by decide) (Nat.le_of_ble_eq_true rfl) rfl (fun f hfl hx hQ => ?_)
  obtain ⟨P, hP⟩ : ∃ P, M.2.2 = P := ⟨_, rfl⟩
  rw [hP] at hq
  have hm0 := hq.m0
  refine g_aload_n (q := 1) hx d_Mo_reads_0 rfl rfl ?_
  refine g_iconst (q := 2) (v := nI 0) hx d_Mo_reads_1 rfl (by decide) ?_
  refine g_puti (q := 5) hx d_Mo_reads_2 rfl fl_Mo_46 nf_7_0 hq.g0 ?_
  refine g_aload_n (q := 6) hx d_Mo_reads_5 rfl rfl ?_
  refine g_geti (q := 9) hx d_Mo_reads_6 rfl fl_Mo_50 hq.g0 ((zi_k (by decide)).trans hI.2.1.1) ?_
  exact g_iret hx d_Mo_reads_9 rfl hQ ⟨Nat.le_refl _, Nat.le_refl _⟩ ⟨_, rfl, rfl, rfl, rfl, rfl⟩
set_option maxHeartbeats 4000000 in
set_option maxRecDepth 100000 in
theorem c_Mo_size (l : Launch) (E : zE) (Γ : zG) (n : Nat) (M : zM) (m : Nat) (len c g k size : Nat) (ref arch : Nat → Nat) (fs hs : Nat → mRd) (ur : mRd) (hq : qX Γ M.2.2 m) (hI : qI M m len c g k size ref arch fs hs ur) : zCt l E Y_Mo_size 0 (0, 0) [.ref m] Γ n M (zPi Γ n (fun v M' => v = nI size ∧ M' = zsi M m 0 (nI 0))) := by
  refine zCt.of [(0, .ref m)] (by decide) (Nat.le_of_ble_eq_true rfl) rfl (fun f hfl hx hQ => ?_)
  obtain ⟨P, hP⟩ : ∃ P, M.2.2 = P := ⟨_, rfl⟩
  rw [hP] at hq
  have hm0 := hq.m0
  refine g_aload_n (q := 1) hx d_Mo_size_0 rfl rfl ?_
  refine g_iconst (q := 2) (v := nI 0) hx d_Mo_size_1 rfl (by decide) ?_
  refine g_puti (q := 5) hx d_Mo_size_2 rfl fl_Mo_46 nf_7_0 hq.g0 ?_
  refine g_aload_n (q := 6) hx d_Mo_size_5 rfl rfl ?_
  refine g_geti (q := 9) hx d_Mo_size_6 rfl fl_Mo_136 hq.g0 ((zi_k (by decide)).trans hI.2.2.2.2.2.2.2.1) ?_
  exact g_iret hx d_Mo_size_9 rfl hQ ⟨Nat.le_refl _, Nat.le_refl _⟩ ⟨_, rfl, rfl, rfl, rfl, rfl⟩
set_option maxHeartbeats 4000000 in
set_option maxRecDepth 100000 in
theorem c_Mo_refer1 (l : Launch) (E : zE) (Γ : zG) (n : Nat) (M : zM) (m : Nat) (len c g k size : Nat) (ref arch : Nat → Nat) (fs hs : Nat → mRd) (ur : mRd) (hq : qX Γ M.2.2 m) (hI : qI M m len c g k size ref arch fs hs ur) (w y : Int32) (hy : ¬ ∃ u : Nat, 1 ≤ u ∧ u ≤ 16 ∧ y = nI u) : zCt l E Y_Mo_refer 0 (0, 0) [.ref m, .int w, .int y] Γ n M (zPi Γ n (fun v M' => M' = zsi M m 0 (nI 1))) := by
  refine zCt.of [(0, .ref m), (1, .int w), (2, .int y)] (by decide) (Nat.le_of_ble_eq_true rfl) rfl (fun f hfl hx hQ => ?_)
  obtain ⟨P, hP⟩ : ∃ P, M.2.2 = P := ⟨_, rfl⟩
  rw [hP] at hq
  have hm0 := hq.m0
  refine g_aload_n (q := 1) hx d_Mo_refer_0 rfl rfl ?_
  refine g_iload_n (q := 2) hx d_Mo_refer_1 rfl rfl ?_
  refine g_iconst (q := 3) (v := nI 1) hx d_Mo_refer_2 rfl (by decide) ?_
  refine g_icmp_lt (q := 6) (t := 12) hx d_Mo_refer_3 rfl rfl Iff.rfl (fun h3 => ?_) (fun h3 => ?_)
  · refine g_iconst (q := 13) (v := nI 1) hx d_Mo_refer_12 rfl (by decide) ?_
    refine g_goto (q := 51) hx d_Mo_refer_13 rfl ?_
    refine g_puti (q := 54) hx d_Mo_refer_51 rfl fl_Mo_46 nf_7_0 hq.g0 ?_
    refine g_aload_n (q := 55) hx d_Mo_refer_54 rfl rfl ?_
    refine g_geti (q := 58) hx d_Mo_refer_55 rfl fl_Mo_46 hq.g0 (zi_s _ _ _ _) ?_
    refine g_if_le (q := 61) (t := 63) hx d_Mo_refer_58 rfl rfl (zb_le0 (by omega)) (fun h58 => ?_) (fun h58 => ?_)
    · exact absurd h58 (by omega)
    · refine g_iconst (q := 62) (v := nI 0) hx d_Mo_refer_61 rfl (by decide) ?_
      exact g_iret hx d_Mo_refer_62 rfl hQ ⟨Nat.le_refl _, Nat.le_refl _⟩ ⟨_, rfl, rfl, rfl, rfl⟩
  · refine g_iload_n (q := 7) hx d_Mo_refer_6 rfl rfl ?_
    refine g_bipush (q := 9) (v := nI 16) hx d_Mo_refer_7 rfl (by decide) ?_
    refine g_icmp_le (q := 12) (t := 16) hx d_Mo_refer_9 rfl rfl Iff.rfl (fun h9 => ?_) (fun h9 => ?_)
    · exact absurd (z_in h3 h9 (by omega)) hy
    · refine g_iconst (q := 13) (v := nI 1) hx d_Mo_refer_12 rfl (by decide) ?_
      refine g_goto (q := 51) hx d_Mo_refer_13 rfl ?_
      refine g_puti (q := 54) hx d_Mo_refer_51 rfl fl_Mo_46 nf_7_0 hq.g0 ?_
      refine g_aload_n (q := 55) hx d_Mo_refer_54 rfl rfl ?_
      refine g_geti (q := 58) hx d_Mo_refer_55 rfl fl_Mo_46 hq.g0 (zi_s _ _ _ _) ?_
      refine g_if_le (q := 61) (t := 63) hx d_Mo_refer_58 rfl rfl (zb_le0 (by omega)) (fun h58 => ?_) (fun h58 => ?_)
      · exact absurd h58 (by omega)
      · refine g_iconst (q := 62) (v := nI 0) hx d_Mo_refer_61 rfl (by decide) ?_
        exact g_iret hx d_Mo_refer_62 rfl hQ ⟨Nat.le_refl _, Nat.le_refl _⟩ ⟨_, rfl, rfl, rfl, rfl⟩
set_option maxHeartbeats 4000000 in
set_option maxRecDepth 100000 in
theorem c_Mo_refer2 (l : Launch) (E : zE) (Γ : zG) (n : Nat) (M : zM) (m : Nat) (len c g k size : Nat) (ref arch : Nat → Nat) (fs hs : Nat → mRd) (ur : mRd) (hq : qX Γ M.2.2 m) (hI : qI M m len c g k size ref arch fs hs ur) (w : Int32) (u : Nat) (hu : 1 ≤ u ∧ u ≤ 16) (hcg : 0 < c ∨ g = 1) : zCt l E Y_Mo_refer 0 (0, 0) [.ref m, .int w, .int (nI u)] Γ n M (zPi Γ n (fun v M' => M' = zsi M m 0 (nI 2))) := by
  refine zCt.of [(0, .ref m), (1, .int w), (2, .int (nI u))] (by decide) (Nat.le_of_ble_eq_true rfl) rfl (fun f hfl hx hQ => ?_)
  obtain ⟨P, hP⟩ : ∃ P, M.2.2 = P := ⟨_, rfl⟩
  rw [hP] at hq
  have hm0 := hq.m0
  have hc24 := hI.2.1.2
  have hg1 := hI.2.2.2.1.2
  have hl160 := hI.1.2.2.1
  refine g_aload_n (q := 1) hx d_Mo_refer_0 rfl rfl ?_
  refine g_iload_n (q := 2) hx d_Mo_refer_1 rfl rfl ?_
  refine g_iconst (q := 3) (v := nI 1) hx d_Mo_refer_2 rfl (by decide) ?_
  refine g_icmp_lt (q := 6) (t := 12) hx d_Mo_refer_3 rfl rfl (nI_ltI (by omega) (by omega)) (fun h3 => ?_) (fun h3 => ?_)
  · exact absurd h3 (by omega)
  · refine g_iload_n (q := 7) hx d_Mo_refer_6 rfl rfl ?_
    refine g_bipush (q := 9) (v := nI 16) hx d_Mo_refer_7 rfl (by decide) ?_
    refine g_icmp_le (q := 12) (t := 16) hx d_Mo_refer_9 rfl rfl (nI_leI (by omega) (by omega)) (fun h9 => ?_) (fun h9 => ?_)
    · refine g_aload_n (q := 17) hx d_Mo_refer_16 rfl rfl ?_
      refine g_geti (q := 20) hx d_Mo_refer_17 rfl fl_Mo_50 hq.g0 hI.2.1.1 ?_
      refine g_if_gt (q := 23) (t := 30) hx d_Mo_refer_20 rfl rfl (zb_gt0 (by omega)) (fun h20 => ?_) (fun h20 => ?_)
      · refine g_iconst (q := 31) (v := nI 2) hx d_Mo_refer_30 rfl (by decide) ?_
        refine g_goto (q := 51) hx d_Mo_refer_31 rfl ?_
        refine g_puti (q := 54) hx d_Mo_refer_51 rfl fl_Mo_46 nf_7_0 hq.g0 ?_
        refine g_aload_n (q := 55) hx d_Mo_refer_54 rfl rfl ?_
        refine g_geti (q := 58) hx d_Mo_refer_55 rfl fl_Mo_46 hq.g0 (zi_s _ _ _ _) ?_
        refine g_if_le (q := 61) (t := 63) hx d_Mo_refer_58 rfl rfl (zb_le0 (by omega)) (fun h58 => ?_) (fun h58 => ?_)
        · exact absurd h58 (by omega)
        · refine g_iconst (q := 62) (v := nI 0) hx d_Mo_refer_61 rfl (by decide) ?_
          exact g_iret hx d_Mo_refer_62 rfl hQ ⟨Nat.le_refl _, Nat.le_refl _⟩ ⟨_, rfl, rfl, rfl, rfl⟩
      · refine g_aload_n (q := 24) hx d_Mo_refer_23 rfl rfl ?_
        refine g_getz (q := 27) hx d_Mo_refer_24 rfl fl_Mo_53 hq.g0 hI.2.2.2.1.1 ?_
        refine g_if_eq (q := 30) (t := 34) hx d_Mo_refer_27 rfl rfl (zb_eq0 (by omega)) (fun h27 => ?_) (fun h27 => ?_)
        · exact absurd h27 (by omega)
        · refine g_iconst (q := 31) (v := nI 2) hx d_Mo_refer_30 rfl (by decide) ?_
          refine g_goto (q := 51) hx d_Mo_refer_31 rfl ?_
          refine g_puti (q := 54) hx d_Mo_refer_51 rfl fl_Mo_46 nf_7_0 hq.g0 ?_
          refine g_aload_n (q := 55) hx d_Mo_refer_54 rfl rfl ?_
          refine g_geti (q := 58) hx d_Mo_refer_55 rfl fl_Mo_46 hq.g0 (zi_s _ _ _ _) ?_
          refine g_if_le (q := 61) (t := 63) hx d_Mo_refer_58 rfl rfl (zb_le0 (by omega)) (fun h58 => ?_) (fun h58 => ?_)
          · exact absurd h58 (by omega)
          · refine g_iconst (q := 62) (v := nI 0) hx d_Mo_refer_61 rfl (by decide) ?_
            exact g_iret hx d_Mo_refer_62 rfl hQ ⟨Nat.le_refl _, Nat.le_refl _⟩ ⟨_, rfl, rfl, rfl, rfl⟩
    · exact absurd (by omega) h9
set_option maxHeartbeats 4000000 in
set_option maxRecDepth 100000 in
theorem c_Mo_refer3 (l : Launch) (E : zE) (Γ : zG) (n : Nat) (M : zM) (m : Nat) (len c g k size : Nat) (ref arch : Nat → Nat) (fs hs : Nat → mRd) (ur : mRd) (hq : qX Γ M.2.2 m) (hI : qI M m len c g k size ref arch fs hs ur) (w : Int32) (u : Nat) (hu : 1 ≤ u ∧ u ≤ 16) (hcg : c = 0 ∧ g = 0) (hl : 160 < len + u) : zCt l E Y_Mo_refer 0 (0, 0) [.ref m, .int w, .int (nI u)] Γ n M (zPi Γ n (fun v M' => M' = zsi M m 0 (nI 3))) := by
  refine zCt.of [(0, .ref m), (1, .int w), (2, .int (nI u))] (by decide) (Nat.le_of_ble_eq_true rfl) rfl (fun f hfl hx hQ => ?_)
  obtain ⟨P, hP⟩ : ∃ P, M.2.2 = P := ⟨_, rfl⟩
  rw [hP] at hq
  have hm0 := hq.m0
  have hc24 := hI.2.1.2
  have hg1 := hI.2.2.2.1.2
  have hl160 := hI.1.2.2.1
  refine g_aload_n (q := 1) hx d_Mo_refer_0 rfl rfl ?_
  refine g_iload_n (q := 2) hx d_Mo_refer_1 rfl rfl ?_
  refine g_iconst (q := 3) (v := nI 1) hx d_Mo_refer_2 rfl (by decide) ?_
  refine g_icmp_lt (q := 6) (t := 12) hx d_Mo_refer_3 rfl rfl (nI_ltI (by omega) (by omega)) (fun h3 => ?_) (fun h3 => ?_)
  · exact absurd h3 (by omega)
  · refine g_iload_n (q := 7) hx d_Mo_refer_6 rfl rfl ?_
    refine g_bipush (q := 9) (v := nI 16) hx d_Mo_refer_7 rfl (by decide) ?_
    refine g_icmp_le (q := 12) (t := 16) hx d_Mo_refer_9 rfl rfl (nI_leI (by omega) (by omega)) (fun h9 => ?_) (fun h9 => ?_)
    · refine g_aload_n (q := 17) hx d_Mo_refer_16 rfl rfl ?_
      refine g_geti (q := 20) hx d_Mo_refer_17 rfl fl_Mo_50 hq.g0 hI.2.1.1 ?_
      refine g_if_gt (q := 23) (t := 30) hx d_Mo_refer_20 rfl rfl (zb_gt0 (by omega)) (fun h20 => ?_) (fun h20 => ?_)
      · exact absurd h20 (by omega)
      · refine g_aload_n (q := 24) hx d_Mo_refer_23 rfl rfl ?_
        refine g_getz (q := 27) hx d_Mo_refer_24 rfl fl_Mo_53 hq.g0 hI.2.2.2.1.1 ?_
        refine g_if_eq (q := 30) (t := 34) hx d_Mo_refer_27 rfl rfl (zb_eq0 (by omega)) (fun h27 => ?_) (fun h27 => ?_)
        · refine g_aload_n (q := 35) hx d_Mo_refer_34 rfl rfl ?_
          refine g_geti (q := 38) hx d_Mo_refer_35 rfl fl_Mo_57 hq.g0 hI.1.1 ?_
          refine g_iload_n (q := 39) hx d_Mo_refer_38 rfl rfl ?_
          refine g_iadd (q := 40) hx d_Mo_refer_39 rfl (nI_add _ _) ?_
          refine g_sipush (q := 43) (v := nI 160) hx d_Mo_refer_40 rfl (by decide) ?_
          refine g_icmp_le (q := 46) (t := 50) hx d_Mo_refer_43 rfl rfl (nI_leI (by omega) (by omega)) (fun h43 => ?_) (fun h43 => ?_)
          · exact absurd h43 (by omega)
          · refine g_iconst (q := 47) (v := nI 3) hx d_Mo_refer_46 rfl (by decide) ?_
            refine g_goto (q := 51) hx d_Mo_refer_47 rfl ?_
            refine g_puti (q := 54) hx d_Mo_refer_51 rfl fl_Mo_46 nf_7_0 hq.g0 ?_
            refine g_aload_n (q := 55) hx d_Mo_refer_54 rfl rfl ?_
            refine g_geti (q := 58) hx d_Mo_refer_55 rfl fl_Mo_46 hq.g0 (zi_s _ _ _ _) ?_
            refine g_if_le (q := 61) (t := 63) hx d_Mo_refer_58 rfl rfl (zb_le0 (by omega)) (fun h58 => ?_) (fun h58 => ?_)
            · exact absurd h58 (by omega)
            · refine g_iconst (q := 62) (v := nI 0) hx d_Mo_refer_61 rfl (by decide) ?_
              exact g_iret hx d_Mo_refer_62 rfl hQ ⟨Nat.le_refl _, Nat.le_refl _⟩ ⟨_, rfl, rfl, rfl, rfl⟩
        · exact absurd (by omega) h27
    · exact absurd (by omega) h9
def bR1 : Nat → Bool := fun i => i == 1
def bRI : Nat → Bool := fun i => i == 0 || i == 1
set_option maxHeartbeats 4000000 in
set_option maxRecDepth 100000 in
theorem c_Mo_refer0 (l : Launch) (E : zE) (Γ : zG) (n : Nat) (M : zM) (m : Nat) (len c g k size : Nat) (ref arch : Nat → Nat) (fs hs : Nat → mRd) (ur : mRd) (hq : qX Γ M.2.2 m) (hI : qI M m len c g k size ref arch fs hs ur) (w : Int32) (u : Nat) (hu : 1 ≤ u ∧ u ≤ 16) (hcg : c = 0 ∧ g = 0) (hl : len + u ≤ 160) : zCt l E Y_Mo_refer 0 (0, 0) [.ref m, .int w, .int (nI u)] Γ n M (zPi Γ n (fun v M' => v = nI (len + u) ∧ zi M' m 0 = nI 0 ∧ kM m M M' ∧ qI M' m (len + u) c g k size (mRf ref len w) arch fs hs ur)) := by
  refine zCt.of [(0, .ref m), (1, .int w), (2, .int (nI u))] (by decide) (Nat.le_of_ble_eq_true rfl) rfl (fun f hfl hx hQ => ?_)
  obtain ⟨P, hP⟩ : ∃ P, M.2.2 = P := ⟨_, rfl⟩
  rw [hP] at hq
  have hm0 := hq.m0
  have hc24 := hI.2.1.2
  have hg1 := hI.2.2.2.1.2
  have hl160 := hI.1.2.2.1
  have loop : ∀ (i : Nat) (M1 : zM), i ≤ u → kF bR1 bRI bN m M M1 → zi M1 m 0 = nI 0 → zi M1 m 1 = nI (len + i) → (∀ j, j < len + i → zi M1 (m + 1) j = nI (mRf ref len w j)) → zGo f E Γ n (0, 0) M1 65 [(3, .int (nI i)), (0, .ref m), (1, .int w), (2, .int (nI u))] [] := by
    refine z_lp (fun i => u - i) _ ?_
    intro i M1 ih hi t1 t2 t3 t4
    replace hP : M1.2.2 = P := t1.r.trans hP
    refine g_iload_n (q := 66) hx d_Mo_refer_65 rfl rfl ?_
    refine g_iload_n (q := 67) hx d_Mo_refer_66 rfl rfl ?_
    refine g_icmp_ge (q := 70) (t := 102) hx d_Mo_refer_67 rfl rfl (nI_leI (by omega) (by omega)) (fun h67 => ?_) (fun h67 => ?_)
    · refine g_aload_n (q := 103) hx d_Mo_refer_102 rfl rfl ?_
      refine g_geti (q := 106) hx d_Mo_refer_103 rfl fl_Mo_57 hq.g0 t3 ?_
      exact g_iret hx d_Mo_refer_106 rfl hQ ⟨Nat.le_refl _, Nat.le_refl _⟩ ⟨_, rfl, rfl, rfl, by rw [show i = u by omega], t2, t1.m, ⟨by rw [show u = i by omega]; exact t3, fun j hj => t4 j (by omega), by omega, fun j => by
            unfold mRf; split
            · exact hI.1.2.2.2 j
            · exact mDig_lt _ _⟩, ⟨(t1.i 3 rfl).trans hI.2.1.1, hI.2.1.2⟩, ⟨(t1.i 4 rfl).trans hI.2.2.1.1, hI.2.2.1.2⟩, ⟨(t1.i 5 rfl).trans hI.2.2.2.1.1, hI.2.2.2.1.2⟩, fun i hi => absurd hi (by omega), fun i hi => ⟨(hI.2.2.2.2.2.1 i hi).1.kp t1 rfl rfl rfl rfl rfl rfl, mOk_up (by omega) (fun j hj => if_pos hj) (hI.2.2.2.2.2.1 i hi).2⟩, fun hg => absurd hg (by omega), hI.2.2.2.2.2.2.2.kp t1 rfl rfl⟩
    · refine g_aload_n (q := 71) hx d_Mo_refer_70 rfl rfl ?_
      refine g_geta (q := 74) hx d_Mo_refer_71 rfl fl_Mo_7 hq.g0 (hq.p1 hP) (by first | exact Nat.succ_ne_zero _ | omega) ?_
      refine g_aload_n (q := 75) hx d_Mo_refer_74 rfl rfl ?_
      refine g_geti (q := 78) hx d_Mo_refer_75 rfl fl_Mo_57 hq.g0 t3 ?_
      refine g_iload_n (q := 79) hx d_Mo_refer_78 rfl rfl ?_
      refine g_iconst (q := 80) (v := nI 2) hx d_Mo_refer_79 rfl (by decide) ?_
      refine g_iload_n (q := 81) hx d_Mo_refer_80 rfl rfl ?_
      refine g_imul (q := 82) hx d_Mo_refer_81 rfl (pk_mul _ _) ?_
      refine g_ishr (q := 83) hx d_Mo_refer_82 rfl rfl ?_
      refine g_iconst (q := 84) (v := nI 3) hx d_Mo_refer_83 rfl (by decide) ?_
      refine g_iand (q := 85) hx d_Mo_refer_84 rfl (z_digs i (by omega)) ?_
      refine g_iast (q := 86) hx d_Mo_refer_85 rfl hq.g1 rfl (by omega) (by decide) ?_
      refine g_aload_n (q := 87) hx d_Mo_refer_86 rfl rfl ?_
      refine g_dup (q := 88) hx d_Mo_refer_87 rfl rfl ?_
      refine g_geti (q := 91) hx d_Mo_refer_88 rfl fl_Mo_57 hq.g0 ((zi_a (by omega)).trans t3) ?_
      refine g_iconst (q := 92) (v := nI 1) hx d_Mo_refer_91 rfl (by decide) ?_
      refine g_iadd (q := 93) hx d_Mo_refer_92 rfl (nI_add _ _) ?_
      refine g_puti (q := 96) hx d_Mo_refer_93 rfl fl_Mo_57 nf_7_1 hq.g0 ?_
      refine g_iinc (q := 99) (lc' := [(3, _), (0, _), (1, _), (2, _)]) hx d_Mo_refer_96 rfl rfl (z_inc _) (by decide) rfl ?_
      refine g_goto (q := 65) hx d_Mo_refer_99 rfl ?_
      refine ih (i + 1) _ (by omega) (by omega) ((t1.sa rfl (by decide) (by decide)).si rfl) ((zi_k (by decide)).trans ((zi_a (by omega)).trans t2)) (zi_s _ _ _ _) (fun j hj => ?_)
      rw [zi_a (by omega)]
      by_cases e : j = len + i
      · subst e
        rw [zi_s]
        unfold mRf
        rw [if_neg (by omega), Nat.add_sub_cancel_left]
      · rw [zi_k e]; exact t4 j (by omega)
  refine g_aload_n (q := 1) hx d_Mo_refer_0 rfl rfl ?_
  refine g_iload_n (q := 2) hx d_Mo_refer_1 rfl rfl ?_
  refine g_iconst (q := 3) (v := nI 1) hx d_Mo_refer_2 rfl (by decide) ?_
  refine g_icmp_lt (q := 6) (t := 12) hx d_Mo_refer_3 rfl rfl (nI_ltI (by omega) (by omega)) (fun h3 => ?_) (fun h3 => ?_)
  · exact absurd h3 (by omega)
  · refine g_iload_n (q := 7) hx d_Mo_refer_6 rfl rfl ?_
    refine g_bipush (q := 9) (v := nI 16) hx d_Mo_refer_7 rfl (by decide) ?_
    refine g_icmp_le (q := 12) (t := 16) hx d_Mo_refer_9 rfl rfl (nI_leI (by omega) (by omega)) (fun h9 => ?_) (fun h9 => ?_)
    · refine g_aload_n (q := 17) hx d_Mo_refer_16 rfl rfl ?_
      refine g_geti (q := 20) hx d_Mo_refer_17 rfl fl_Mo_50 hq.g0 hI.2.1.1 ?_
      refine g_if_gt (q := 23) (t := 30) hx d_Mo_refer_20 rfl rfl (zb_gt0 (by omega)) (fun h20 => ?_) (fun h20 => ?_)
      · exact absurd h20 (by omega)
      · refine g_aload_n (q := 24) hx d_Mo_refer_23 rfl rfl ?_
        refine g_getz (q := 27) hx d_Mo_refer_24 rfl fl_Mo_53 hq.g0 hI.2.2.2.1.1 ?_
        refine g_if_eq (q := 30) (t := 34) hx d_Mo_refer_27 rfl rfl (zb_eq0 (by omega)) (fun h27 => ?_) (fun h27 => ?_)
        · refine g_aload_n (q := 35) hx d_Mo_refer_34 rfl rfl ?_
          refine g_geti (q := 38) hx d_Mo_refer_35 rfl fl_Mo_57 hq.g0 hI.1.1 ?_
          refine g_iload_n (q := 39) hx d_Mo_refer_38 rfl rfl ?_
          refine g_iadd (q := 40) hx d_Mo_refer_39 rfl (nI_add _ _) ?_
          refine g_sipush (q := 43) (v := nI 160) hx d_Mo_refer_40 rfl (by decide) ?_
          refine g_icmp_le (q := 46) (t := 50) hx d_Mo_refer_43 rfl rfl (nI_leI (by omega) (by omega)) (fun h43 => ?_) (fun h43 => ?_)
          · refine g_iconst (q := 51) (v := nI 0) hx d_Mo_refer_50 rfl (by decide) ?_
            refine g_puti (q := 54) hx d_Mo_refer_51 rfl fl_Mo_46 nf_7_0 hq.g0 ?_
            refine g_aload_n (q := 55) hx d_Mo_refer_54 rfl rfl ?_
            refine g_geti (q := 58) hx d_Mo_refer_55 rfl fl_Mo_46 hq.g0 (zi_s _ _ _ _) ?_
            refine g_if_le (q := 61) (t := 63) hx d_Mo_refer_58 rfl rfl (zb_le0 (by omega)) (fun h58 => ?_) (fun h58 => ?_)
            · refine g_iconst (q := 64) (v := nI 0) hx d_Mo_refer_63 rfl (by decide) ?_
              refine g_istore_n (q := 65) (lc' := [(3, _), (0, _), (1, _), (2, _)]) hx d_Mo_refer_64 rfl (by decide) rfl ?_
              exact loop 0 _ (Nat.zero_le _) (kF.rf.si rfl) (zi_s _ _ _ _) ((zi_k (by decide)).trans hI.1.1) (fun j hj => (zi_a (by omega)).trans ((hI.1.2.1 j hj).trans (congrArg nI (if_pos hj).symm)))
            · exact absurd h58 (by omega)
          · exact absurd (by omega) h43
        · exact absurd (by omega) h27
    · exact absurd (by omega) h9
def bCl : Nat → Bool := fun i => i == 0 || i == 1 || i == 3 || i == 4 || i == 5
def bCl3 : Nat → Bool := fun i => i == 0 || i == 3 || i == 5
set_option maxHeartbeats 4000000 in
set_option maxRecDepth 100000 in
theorem c_Mo_clear (l : Launch) (E : zE) (Γ : zG) (n : Nat) (M : zM) (m : Nat) (len c g k size : Nat) (ref arch : Nat → Nat) (fs hs : Nat → mRd) (ur : mRd) (hq : qX Γ M.2.2 m) (hI : qI M m len c g k size ref arch fs hs ur) (z : Int32) : zCt l E Y_Mo_clear 0 (0, 0) [.ref m, .int z] Γ n M (zPv Γ n (fun M' => if z = 0 then kM m M M' ∧ qI M' m len 0 0 k size ref arch fs hs ur else kM m M M' ∧ qI M' m 0 0 0 0 size ref arch fs hs ur)) := by
  refine zCt.of [(0, .ref m), (1, .int z)] (by decide) (Nat.le_of_ble_eq_true rfl) rfl (fun f hfl hx hQ => ?_)
  obtain ⟨P, hP⟩ : ∃ P, M.2.2 = P := ⟨_, rfl⟩
  rw [hP] at hq
  have hm0 := hq.m0
  refine g_aload_n (q := 1) hx d_Mo_clear_0 rfl rfl ?_
  refine g_iconst (q := 2) (v := nI 0) hx d_Mo_clear_1 rfl (by decide) ?_
  refine g_puti (q := 5) hx d_Mo_clear_2 rfl fl_Mo_46 nf_7_0 hq.g0 ?_
  refine g_aload_n (q := 6) hx d_Mo_clear_5 rfl rfl ?_
  refine g_iconst (q := 7) (v := nI 0) hx d_Mo_clear_6 rfl (by decide) ?_
  refine g_puti (q := 10) hx d_Mo_clear_7 rfl fl_Mo_50 nf_7_3 hq.g0 ?_
  refine g_aload_n (q := 11) hx d_Mo_clear_10 rfl rfl ?_
  refine g_iconst (q := 12) (v := nI 0) hx d_Mo_clear_11 rfl (by decide) ?_
  refine g_putz (q := 15) hx d_Mo_clear_12 rfl fl_Mo_53 nf_7_5 hq.g0 (by decide) ?_
  refine g_iload_n (q := 16) hx d_Mo_clear_15 rfl rfl ?_
  refine g_if_eq (q := 19) (t := 29) hx d_Mo_clear_16 rfl rfl Iff.rfl (fun h16 => ?_) (fun h16 => ?_)
  · exact g_vret hx d_Mo_clear_29 rfl hQ ⟨Nat.le_refl _, Nat.le_refl _⟩ ⟨rfl, rfl, rfl, by
          dsimp only
          rw [if_pos h16]
          have t1 : kF bN bCl bN m M (zsi (zsi (zsi M m 0 (nI 0)) m 3 (nI 0)) m 5 (nI 0)) := ((kF.rf.si rfl).si rfl).si rfl
          exact ⟨t1.m, hI.1.kp (A := bN) (I := bCl3) (L := bN) (((kF.rf.si rfl).si rfl).si rfl) rfl rfl, ⟨(zi_k (by decide)).trans (zi_s _ _ _ _), Nat.zero_le _⟩, ⟨(zi_k (by decide)).trans ((zi_k (by decide)).trans ((zi_k (by decide)).trans hI.2.2.1.1)), hI.2.2.1.2⟩, ⟨zi_s _ _ _ _, Nat.zero_le _⟩, fun i hi => absurd hi (Nat.not_lt_zero _), fun i hi => ⟨(hI.2.2.2.2.2.1 i hi).1.kp t1 rfl rfl rfl rfl rfl rfl, (hI.2.2.2.2.2.1 i hi).2⟩, fun hg => absurd hg (by omega), hI.2.2.2.2.2.2.2.kp t1 rfl rfl⟩⟩
  · refine g_aload_n (q := 20) hx d_Mo_clear_19 rfl rfl ?_
    refine g_iconst (q := 21) (v := nI 0) hx d_Mo_clear_20 rfl (by decide) ?_
    refine g_puti (q := 24) hx d_Mo_clear_21 rfl fl_Mo_57 nf_7_1 hq.g0 ?_
    refine g_aload_n (q := 25) hx d_Mo_clear_24 rfl rfl ?_
    refine g_iconst (q := 26) (v := nI 0) hx d_Mo_clear_25 rfl (by decide) ?_
    refine g_puti (q := 29) hx d_Mo_clear_26 rfl fl_Mo_60 nf_7_4 hq.g0 ?_
    exact g_vret hx d_Mo_clear_29 rfl hQ ⟨Nat.le_refl _, Nat.le_refl _⟩ ⟨rfl, rfl, rfl, by
          dsimp only
          rw [if_neg h16]
          have t1 : kF bN bCl bN m M (zsi (zsi (zsi (zsi (zsi M m 0 (nI 0)) m 3 (nI 0)) m 5 (nI 0)) m 1 (nI 0)) m 4 (nI 0)) := ((((kF.rf.si rfl).si rfl).si rfl).si rfl).si rfl
          exact ⟨t1.m, ⟨(zi_k (by decide)).trans (zi_s _ _ _ _), fun j hj => absurd hj (Nat.not_lt_zero _), Nat.zero_le _, hI.1.2.2.2⟩, ⟨(zi_k (by decide)).trans ((zi_k (by decide)).trans ((zi_k (by decide)).trans (zi_s _ _ _ _))), Nat.zero_le _⟩, ⟨zi_s _ _ _ _, Nat.zero_le _⟩, ⟨(zi_k (by decide)).trans ((zi_k (by decide)).trans (zi_s _ _ _ _)), Nat.zero_le _⟩, fun i hi => absurd hi (Nat.not_lt_zero _), fun i hi => absurd hi (Nat.not_lt_zero _), fun hg => absurd hg (by omega), hI.2.2.2.2.2.2.2.kp t1 rfl rfl⟩⟩
set_option maxHeartbeats 4000000 in
set_option maxRecDepth 100000 in
theorem c_Mo_start1 (l : Launch) (E : zE) (Γ : zG) (n : Nat) (M : zM) (m : Nat) (len c g k size : Nat) (ref arch : Nat → Nat) (fs hs : Nat → mRd) (ur : mRd) (hq : qX Γ M.2.2 m) (hI : qI M m len c g k size ref arch fs hs ur) (y : Int32) (hy : ¬ ∃ u : Nat, 0 ≤ u ∧ u ≤ len ∧ y = nI u) : zCt l E Y_Mo_start 1 (0, 0) [.ref m, .int y] Γ n M (zPv Γ n (fun M' => M' = zsi M m 0 (nI 1))) := by
  refine zCt.of [(0, .ref m), (1, .int y)] (by decide) (Nat.le_of_ble_eq_true rfl) rfl (fun f hfl hx hQ => ?_)
  obtain ⟨P, hP⟩ : ∃ P, M.2.2 = P := ⟨_, rfl⟩
  rw [hP] at hq
  have hm0 := hq.m0
  have hc24 := hI.2.1.2
  have hg1 := hI.2.2.2.1.2
  have hl160 := hI.1.2.2.1
  refine g_aload_n (q := 1) hx d_Mo_start_0 rfl rfl ?_
  refine g_iload_n (q := 2) hx d_Mo_start_1 rfl rfl ?_
  refine g_if_lt (q := 5) (t := 13) hx d_Mo_start_2 rfl rfl Iff.rfl (fun h2 => ?_) (fun h2 => ?_)
  · refine g_iconst (q := 14) (v := nI 1) hx d_Mo_start_13 rfl (by decide) ?_
    refine g_goto (q := 18) hx d_Mo_start_14 rfl ?_
    refine g_puti (q := 21) hx d_Mo_start_18 rfl fl_Mo_46 nf_7_0 hq.g0 ?_
    refine g_aload_n (q := 22) hx d_Mo_start_21 rfl rfl ?_
    refine g_geti (q := 25) hx d_Mo_start_22 rfl fl_Mo_46 hq.g0 (zi_s _ _ _ _) ?_
    refine g_if_le (q := 28) (t := 29) hx d_Mo_start_25 rfl rfl (zb_le0 (by omega)) (fun h25 => ?_) (fun h25 => ?_)
    · exact absurd h25 (by omega)
    · exact g_vret hx d_Mo_start_28 rfl hQ ⟨Nat.le_refl _, Nat.le_refl _⟩ ⟨rfl, rfl, rfl, rfl⟩
  · refine g_iload_n (q := 6) hx d_Mo_start_5 rfl rfl ?_
    refine g_aload_n (q := 7) hx d_Mo_start_6 rfl rfl ?_
    refine g_geti (q := 10) hx d_Mo_start_7 rfl fl_Mo_57 hq.g0 hI.1.1 ?_
    refine g_icmp_le (q := 13) (t := 17) hx d_Mo_start_10 rfl rfl Iff.rfl (fun h10 => ?_) (fun h10 => ?_)
    · exact absurd (z_in (a := 0) (by rw [nI_0]; exact h2) h10 (by omega)) hy
    · refine g_iconst (q := 14) (v := nI 1) hx d_Mo_start_13 rfl (by decide) ?_
      refine g_goto (q := 18) hx d_Mo_start_14 rfl ?_
      refine g_puti (q := 21) hx d_Mo_start_18 rfl fl_Mo_46 nf_7_0 hq.g0 ?_
      refine g_aload_n (q := 22) hx d_Mo_start_21 rfl rfl ?_
      refine g_geti (q := 25) hx d_Mo_start_22 rfl fl_Mo_46 hq.g0 (zi_s _ _ _ _) ?_
      refine g_if_le (q := 28) (t := 29) hx d_Mo_start_25 rfl rfl (zb_le0 (by omega)) (fun h25 => ?_) (fun h25 => ?_)
      · exact absurd h25 (by omega)
      · exact g_vret hx d_Mo_start_28 rfl hQ ⟨Nat.le_refl _, Nat.le_refl _⟩ ⟨rfl, rfl, rfl, rfl⟩
def bI05 : Nat → Bool := fun i => i == 0 || i == 5
set_option maxHeartbeats 4000000 in
set_option maxRecDepth 100000 in
theorem c_Mo_start0 (l : Launch) (E : zE) (Γ : zG) (n : Nat) (M : zM) (m : Nat) (len c g k size : Nat) (ref arch : Nat → Nat) (fs hs : Nat → mRd) (ur : mRd) (hq : qX Γ M.2.2 m) (hI : qI M m len c g k size ref arch fs hs ur) (u : Nat) (hu : u ≤ len) : zCt l E Y_Mo_start 1 (0, 0) [.ref m, .int (nI u)] Γ n M (zPv Γ n (fun M' => zi M' m 0 = nI 0 ∧ kM m M M' ∧ qI M' m len c 1 k size ref arch fs hs (u, []))) := by
  refine zCt.of [(0, .ref m), (1, .int (nI u))] (by decide) (Nat.le_of_ble_eq_true rfl) rfl (fun f hfl hx hQ => ?_)
  obtain ⟨P, hP⟩ : ∃ P, M.2.2 = P := ⟨_, rfl⟩
  rw [hP] at hq
  have hm0 := hq.m0
  have hc24 := hI.2.1.2
  have hg1 := hI.2.2.2.1.2
  have hl160 := hI.1.2.2.1
  have hk3 := hI.2.2.1.2
  refine g_aload_n (q := 1) hx d_Mo_start_0 rfl rfl ?_
  refine g_iload_n (q := 2) hx d_Mo_start_1 rfl rfl ?_
  refine g_if_lt (q := 5) (t := 13) hx d_Mo_start_2 rfl rfl (zb_lt0 (by omega)) (fun h2 => ?_) (fun h2 => ?_)
  · exact h2.elim
  · refine g_iload_n (q := 6) hx d_Mo_start_5 rfl rfl ?_
    refine g_aload_n (q := 7) hx d_Mo_start_6 rfl rfl ?_
    refine g_geti (q := 10) hx d_Mo_start_7 rfl fl_Mo_57 hq.g0 hI.1.1 ?_
    refine g_icmp_le (q := 13) (t := 17) hx d_Mo_start_10 rfl rfl (nI_leI (by omega) (by omega)) (fun h10 => ?_) (fun h10 => ?_)
    · refine g_iconst (q := 18) (v := nI 0) hx d_Mo_start_17 rfl (by decide) ?_
      refine g_puti (q := 21) hx d_Mo_start_18 rfl fl_Mo_46 nf_7_0 hq.g0 ?_
      refine g_aload_n (q := 22) hx d_Mo_start_21 rfl rfl ?_
      refine g_geti (q := 25) hx d_Mo_start_22 rfl fl_Mo_46 hq.g0 (zi_s _ _ _ _) ?_
      refine g_if_le (q := 28) (t := 29) hx d_Mo_start_25 rfl rfl (zb_le0 (by omega)) (fun h25 => ?_) (fun h25 => ?_)
      · refine g_aload_n (q := 30) hx d_Mo_start_29 rfl rfl ?_
        refine g_bipush (q := 32) (v := nI 30) hx d_Mo_start_30 rfl (by decide) ?_
        refine g_iload_n (q := 33) hx d_Mo_start_32 rfl rfl ?_
        refine g_cv (q := 36) (zrunV hx d_Mo_start_33 lk_Mo_63 rfl rfl hq.g0 rfl rfl (Nat.le_of_ble_eq_true rfl) (by decide) (by omega) (by omega) (c_Mo_open _ E Γ n _ m 30 u (by rw [show (zsi M m 0 (nI 0)).2.2 = P from hP]; exact hq) (by omega))) rfl (fun M1 p33 => ?_)
        obtain ⟨z1, x1, s1⟩ := p33
        replace hP : M1.2.2 = P := z1.r.trans hP
        refine g_aload_n (q := 37) hx d_Mo_start_36 rfl rfl ?_
        refine g_iconst (q := 38) (v := nI 1) hx d_Mo_start_37 rfl (by decide) ?_
        refine g_putz (q := 41) hx d_Mo_start_38 rfl fl_Mo_53 nf_7_5 hq.g0 (by decide) ?_
        exact g_vret hx d_Mo_start_41 rfl hQ ⟨Nat.le_refl _, Nat.le_refl _⟩ ⟨rfl, rfl, rfl, by
              have t1 : kF bSA bI05 bN m M (zsi M1 m 5 (nI 1)) := (((kF.rf.si rfl).tr (z1.mono (zSb_rf _) (bN_ _) (bN_ _))).si rfl)
              have t2 : kF bN bI05 bN m M1 (zsi M1 m 5 (nI 1)) := kF.rf.si rfl
              have t0 : kF bN bI05 bN m M (zsi M m 0 (nI 0)) := kF.rf.si rfl
              have ho : ∀ r rd, r ≠ 30 → mOk ref len rd → qS M m r rd → qS (zsi M1 m 5 (nI 1)) m r rd := fun r rd hr h9 h8 => (qS.ot x1 hr h9.2.2.2 (h8.kp t0 rfl rfl rfl rfl rfl rfl)).kp t2 rfl rfl rfl rfl rfl rfl
              exact ⟨(zi_k (by decide)).trans ((z1.i 0 rfl).trans (zi_s _ _ _ _)), t1.m, hI.1.kp t1 rfl rfl, ⟨(t1.i 3 rfl).trans hI.2.1.1, hI.2.1.2⟩, ⟨(t1.i 4 rfl).trans hI.2.2.1.1, hI.2.2.1.2⟩, ⟨zi_s _ _ _ _, Nat.le_refl _⟩, fun i hi => ⟨ho i _ (by omega) (hI.2.2.2.2.1 i hi).2 (hI.2.2.2.2.1 i hi).1, (hI.2.2.2.2.1 i hi).2⟩, fun i hi => ⟨ho (24 + i) _ (by omega) (hI.2.2.2.2.2.1 i hi).2 (hI.2.2.2.2.2.1 i hi).1, (hI.2.2.2.2.2.1 i hi).2⟩, fun _ => ⟨s1.kp t2 rfl rfl rfl rfl rfl rfl, hu, trivial, Nat.zero_le _, Nat.zero_le _⟩, hI.2.2.2.2.2.2.2.kp t1 rfl rfl⟩⟩
      · exact absurd h25 (by omega)
    · exact absurd (by omega) h10
set_option maxHeartbeats 4000000 in
set_option maxRecDepth 100000 in
theorem c_Mo_edit1 (l : Launch) (E : zE) (Γ : zG) (n : Nat) (M : zM) (m : Nat) (len c g k size : Nat) (ref arch : Nat → Nat) (fs hs : Nat → mRd) (ur : mRd) (hq : qX Γ M.2.2 m) (hI : qI M m len c g k size ref arch fs hs ur) (x y : Int32) (hg : g = 0) : zCt l E Y_Mo_edit 1 (0, 0) [.ref m, .int x, .int y] Γ n M (zPv Γ n (fun M' => M' = zsi M m 0 (nI 1))) := by
  refine zCt.of [(0, .ref m), (1, .int x), (2, .int y)] (by decide) (Nat.le_of_ble_eq_true rfl) rfl (fun f hfl hx hQ => ?_)
  obtain ⟨P, hP⟩ : ∃ P, M.2.2 = P := ⟨_, rfl⟩
  rw [hP] at hq
  have hm0 := hq.m0
  have hc24 := hI.2.1.2
  have hg1 := hI.2.2.2.1.2
  have hl160 := hI.1.2.2.1
  refine g_aload_n (q := 1) hx d_Mo_edit_0 rfl rfl ?_
  refine g_iconst (q := 2) (v := nI 1) hx d_Mo_edit_1 rfl (by decide) ?_
  refine g_puti (q := 5) hx d_Mo_edit_2 rfl fl_Mo_46 nf_7_0 hq.g0 ?_
  refine g_aload_n (q := 6) hx d_Mo_edit_5 rfl rfl ?_
  refine g_getz (q := 9) hx d_Mo_edit_6 rfl fl_Mo_53 hq.g0 ((zi_k (by decide)).trans hI.2.2.2.1.1) ?_
  refine g_if_ne (q := 12) (t := 13) hx d_Mo_edit_9 rfl rfl (zb_ne0 (by omega)) (fun h9 => ?_) (fun h9 => ?_)
  · exact absurd h9 (by omega)
  · exact g_vret hx d_Mo_edit_12 rfl hQ ⟨Nat.le_refl _, Nat.le_refl _⟩ ⟨rfl, rfl, rfl, rfl⟩
theorem z_ss (M : zM) (a k : Nat) (v w : Int32) : zsi (zsi M a k v) a k w = zsi M a k w := by
  unfold zsi
  refine Prod.ext ?_ rfl
  funext b
  by_cases e : b = a
  · subst e
    simp only [va_up_self]
    funext j
    by_cases e2 : j = k
    · subst e2; simp [va_up]
    · simp [va_up, e2]
  · simp [va_up, e]
set_option maxHeartbeats 4000000 in
set_option maxRecDepth 100000 in
theorem c_Mo_edit2 (l : Launch) (E : zE) (Γ : zG) (n : Nat) (M : zM) (m : Nat) (len c g k size : Nat) (ref arch : Nat → Nat) (fs hs : Nat → mRd) (ur : mRd) (hq : qX Γ M.2.2 m) (hI : qI M m len c g k size ref arch fs hs ur) (x y : Int32) (hg : g = 1) (hz : ¬ zFit ref len (ur.1 + mPs ur.2) x y) : zCt l E Y_Mo_edit 1 (0, 0) [.ref m, .int x, .int y] Γ n M (zPv Γ n (fun M' => M' = zsi M m 0 (nI 2))) := by
  refine zCt.of [(0, .ref m), (1, .int x), (2, .int y)] (by decide) (Nat.le_of_ble_eq_true rfl) rfl (fun f hfl hx hQ => ?_)
  obtain ⟨P, hP⟩ : ∃ P, M.2.2 = P := ⟨_, rfl⟩
  rw [hP] at hq
  have hm0 := hq.m0
  have hc24 := hI.2.1.2
  have hg1 := hI.2.2.2.1.2
  have hl160 := hI.1.2.2.1
  have hI0 := hI.c0 (v := nI 1)
  have huk := (hI.2.2.2.2.2.2.1 hg).2
  refine g_aload_n (q := 1) hx d_Mo_edit_0 rfl rfl ?_
  refine g_iconst (q := 2) (v := nI 1) hx d_Mo_edit_1 rfl (by decide) ?_
  refine g_puti (q := 5) hx d_Mo_edit_2 rfl fl_Mo_46 nf_7_0 hq.g0 ?_
  refine g_aload_n (q := 6) hx d_Mo_edit_5 rfl rfl ?_
  refine g_getz (q := 9) hx d_Mo_edit_6 rfl fl_Mo_53 hq.g0 ((zi_k (by decide)).trans hI.2.2.2.1.1) ?_
  refine g_if_ne (q := 12) (t := 13) hx d_Mo_edit_9 rfl rfl (zb_ne0 (by omega)) (fun h9 => ?_) (fun h9 => ?_)
  · refine g_aload_n (q := 14) hx d_Mo_edit_13 rfl rfl ?_
    refine g_bipush (q := 16) (v := nI 30) hx d_Mo_edit_14 rfl (by decide) ?_
    refine g_iload_n (q := 17) hx d_Mo_edit_16 rfl rfl ?_
    refine g_iload_n (q := 18) hx d_Mo_edit_17 rfl rfl ?_
    refine g_ci (q := 21) (zrunV hx d_Mo_edit_18 lk_Mo_67 rfl rfl hq.g0 rfl rfl (Nat.le_of_ble_eq_true rfl) (by decide) (by omega) (by omega) (c_Mo_barred _ E Γ n _ m 30 len ref ur x y (by rw [show (zsi M m 0 (nI 1)).2.2 = P from hP]; exact hq) hI0.1 (hI0.2.2.2.2.2.2.1 hg).1 (by omega) (mPs_fit huk) huk.2.2.2 huk.2.2.1 (mFits_ks huk.2.1))) rfl (fun r18 M1 p18 => ?_)
    obtain ⟨rfl, p18⟩ := p18
    obtain rfl : r18 = nI 1 := by
      rcases p18 with ⟨q1, -⟩ | ⟨k9, u9, w1, w2, w3, w4, w5, w6⟩
      · exact q1
      · exact absurd ⟨k9, u9, w4, w1, w2, w3, w5⟩ hz
    refine g_istore_n (q := 22) (lc' := [(3, _), (0, _), (1, _), (2, _)]) hx d_Mo_edit_21 rfl (by decide) rfl ?_
    refine g_aload_n (q := 23) hx d_Mo_edit_22 rfl rfl ?_
    refine g_iload_n (q := 24) hx d_Mo_edit_23 rfl rfl ?_
    refine g_if_le (q := 27) (t := 33) hx d_Mo_edit_24 rfl rfl (zb_le0 (by omega)) (fun h24 => ?_) (fun h24 => ?_)
    · exact absurd h24 (by omega)
    · refine g_iload_n (q := 28) hx d_Mo_edit_27 rfl rfl ?_
      refine g_iconst (q := 29) (v := nI 1) hx d_Mo_edit_28 rfl (by decide) ?_
      refine g_iadd (q := 30) hx d_Mo_edit_29 rfl (nI_add _ _) ?_
      refine g_goto (q := 34) hx d_Mo_edit_30 rfl ?_
      refine g_puti (q := 37) hx d_Mo_edit_34 rfl fl_Mo_46 nf_7_0 hq.g0 ?_
      refine g_aload_n (q := 38) hx d_Mo_edit_37 rfl rfl ?_
      refine g_geti (q := 41) hx d_Mo_edit_38 rfl fl_Mo_46 hq.g0 (zi_s _ _ _ _) ?_
      refine g_if_ne (q := 44) (t := 52) hx d_Mo_edit_41 rfl rfl (zb_ne0 (by omega)) (fun h41 => ?_) (fun h41 => ?_)
      · exact g_vret hx d_Mo_edit_52 rfl hQ ⟨Nat.le_refl _, Nat.le_refl _⟩ ⟨rfl, rfl, rfl, (z_ss _ _ _ _ _).trans rfl⟩
      · exact absurd (by omega) h41
  · exact absurd (by omega) h9
set_option maxHeartbeats 4000000 in
set_option maxRecDepth 100000 in
theorem c_Mo_edit3 (l : Launch) (E : zE) (Γ : zG) (n : Nat) (M : zM) (m : Nat) (len c g k size : Nat) (ref arch : Nat → Nat) (fs hs : Nat → mRd) (ur : mRd) (hq : qX Γ M.2.2 m) (hI : qI M m len c g k size ref arch fs hs ur) (kk v : Nat) (hg : g = 1) (hk : kk < 4) (hv : v < 2 ^ 31) (hz : mFit ref len (ur.1 + mPs ur.2) (kk, v)) (hz2 : ¬ mRoom ur.2 (kk, v)) : zCt l E Y_Mo_edit 1 (0, 0) [.ref m, .int (nI kk), .int (nI v)] Γ n M (zPv Γ n (fun M' => M' = zsi M m 0 (nI 3))) := by
  refine zCt.of [(0, .ref m), (1, .int (nI kk)), (2, .int (nI v))] (by decide) (Nat.le_of_ble_eq_true rfl) rfl (fun f hfl hx hQ => ?_)
  obtain ⟨P, hP⟩ : ∃ P, M.2.2 = P := ⟨_, rfl⟩
  rw [hP] at hq
  have hm0 := hq.m0
  have hc24 := hI.2.1.2
  have hg1 := hI.2.2.2.1.2
  have hl160 := hI.1.2.2.1
  have hI0 := hI.c0 (v := nI 1)
  have huk := (hI.2.2.2.2.2.2.1 hg).2
  refine g_aload_n (q := 1) hx d_Mo_edit_0 rfl rfl ?_
  refine g_iconst (q := 2) (v := nI 1) hx d_Mo_edit_1 rfl (by decide) ?_
  refine g_puti (q := 5) hx d_Mo_edit_2 rfl fl_Mo_46 nf_7_0 hq.g0 ?_
  refine g_aload_n (q := 6) hx d_Mo_edit_5 rfl rfl ?_
  refine g_getz (q := 9) hx d_Mo_edit_6 rfl fl_Mo_53 hq.g0 ((zi_k (by decide)).trans hI.2.2.2.1.1) ?_
  refine g_if_ne (q := 12) (t := 13) hx d_Mo_edit_9 rfl rfl (zb_ne0 (by omega)) (fun h9 => ?_) (fun h9 => ?_)
  · refine g_aload_n (q := 14) hx d_Mo_edit_13 rfl rfl ?_
    refine g_bipush (q := 16) (v := nI 30) hx d_Mo_edit_14 rfl (by decide) ?_
    refine g_iload_n (q := 17) hx d_Mo_edit_16 rfl rfl ?_
    refine g_iload_n (q := 18) hx d_Mo_edit_17 rfl rfl ?_
    refine g_ci (q := 21) (zrunV hx d_Mo_edit_18 lk_Mo_67 rfl rfl hq.g0 rfl rfl (Nat.le_of_ble_eq_true rfl) (by decide) (by omega) (by omega) (c_Mo_barred _ E Γ n _ m 30 len ref ur (nI kk) (nI v) (by rw [show (zsi M m 0 (nI 1)).2.2 = P from hP]; exact hq) hI0.1 (hI0.2.2.2.2.2.2.1 hg).1 (by omega) (mPs_fit huk) huk.2.2.2 huk.2.2.1 (mFits_ks huk.2.1))) rfl (fun r18 M1 p18 => ?_)
    obtain ⟨rfl, p18⟩ := p18
    obtain rfl : r18 = nI 2 := by
      rcases p18 with ⟨-, q1⟩ | ⟨k9, u9, w1, w2, w3, w4, w5, w6⟩
      · exact absurd ⟨kk, v, hv, rfl, hk, rfl, hz⟩ q1
      · obtain rfl := nI_inj4 w1 w2 hk
        obtain rfl := (nI_eq hv w4).mp w3
        exact (w6.resolve_right (fun q => hz2 q.2)).1
    refine g_istore_n (q := 22) (lc' := [(3, _), (0, _), (1, _), (2, _)]) hx d_Mo_edit_21 rfl (by decide) rfl ?_
    refine g_aload_n (q := 23) hx d_Mo_edit_22 rfl rfl ?_
    refine g_iload_n (q := 24) hx d_Mo_edit_23 rfl rfl ?_
    refine g_if_le (q := 27) (t := 33) hx d_Mo_edit_24 rfl rfl (zb_le0 (by omega)) (fun h24 => ?_) (fun h24 => ?_)
    · exact absurd h24 (by omega)
    · refine g_iload_n (q := 28) hx d_Mo_edit_27 rfl rfl ?_
      refine g_iconst (q := 29) (v := nI 1) hx d_Mo_edit_28 rfl (by decide) ?_
      refine g_iadd (q := 30) hx d_Mo_edit_29 rfl (nI_add _ _) ?_
      refine g_goto (q := 34) hx d_Mo_edit_30 rfl ?_
      refine g_puti (q := 37) hx d_Mo_edit_34 rfl fl_Mo_46 nf_7_0 hq.g0 ?_
      refine g_aload_n (q := 38) hx d_Mo_edit_37 rfl rfl ?_
      refine g_geti (q := 41) hx d_Mo_edit_38 rfl fl_Mo_46 hq.g0 (zi_s _ _ _ _) ?_
      refine g_if_ne (q := 44) (t := 52) hx d_Mo_edit_41 rfl rfl (zb_ne0 (by omega)) (fun h41 => ?_) (fun h41 => ?_)
      · exact g_vret hx d_Mo_edit_52 rfl hQ ⟨Nat.le_refl _, Nat.le_refl _⟩ ⟨rfl, rfl, rfl, (z_ss _ _ _ _ _).trans rfl⟩
      · exact absurd (by omega) h41
  · exact absurd (by omega) h9
set_option maxHeartbeats 4000000 in
set_option maxRecDepth 100000 in
theorem c_Mo_edit0 (l : Launch) (E : zE) (Γ : zG) (n : Nat) (M : zM) (m : Nat) (len c g k size : Nat) (ref arch : Nat → Nat) (fs hs : Nat → mRd) (ur : mRd) (hq : qX Γ M.2.2 m) (hI : qI M m len c g k size ref arch fs hs ur) (kk v : Nat) (hg : g = 1) (hk : kk < 4) (hv : v < 2 ^ 31) (hz : mFit ref len (ur.1 + mPs ur.2) (kk, v)) (hz2 : mRoom ur.2 (kk, v)) : zCt l E Y_Mo_edit 1 (0, 0) [.ref m, .int (nI kk), .int (nI v)] Γ n M (zPv Γ n (fun M' => zi M' m 0 = nI 0 ∧ kM m M M' ∧ qI M' m len c g k size ref arch fs hs (ur.1, mAdd ur.2 (kk, v)))) := by
  refine zCt.of [(0, .ref m), (1, .int (nI kk)), (2, .int (nI v))] (by decide) (Nat.le_of_ble_eq_true rfl) rfl (fun f hfl hx hQ => ?_)
  obtain ⟨P, hP⟩ : ∃ P, M.2.2 = P := ⟨_, rfl⟩
  rw [hP] at hq
  have hm0 := hq.m0
  have hc24 := hI.2.1.2
  have hg1 := hI.2.2.2.1.2
  have hl160 := hI.1.2.2.1
  have hI0 := hI.c0 (v := nI 1)
  have huk := (hI.2.2.2.2.2.2.1 hg).2
  have hk3 := hI.2.2.1.2
  refine g_aload_n (q := 1) hx d_Mo_edit_0 rfl rfl ?_
  refine g_iconst (q := 2) (v := nI 1) hx d_Mo_edit_1 rfl (by decide) ?_
  refine g_puti (q := 5) hx d_Mo_edit_2 rfl fl_Mo_46 nf_7_0 hq.g0 ?_
  refine g_aload_n (q := 6) hx d_Mo_edit_5 rfl rfl ?_
  refine g_getz (q := 9) hx d_Mo_edit_6 rfl fl_Mo_53 hq.g0 ((zi_k (by decide)).trans hI.2.2.2.1.1) ?_
  refine g_if_ne (q := 12) (t := 13) hx d_Mo_edit_9 rfl rfl (zb_ne0 (by omega)) (fun h9 => ?_) (fun h9 => ?_)
  · refine g_aload_n (q := 14) hx d_Mo_edit_13 rfl rfl ?_
    refine g_bipush (q := 16) (v := nI 30) hx d_Mo_edit_14 rfl (by decide) ?_
    refine g_iload_n (q := 17) hx d_Mo_edit_16 rfl rfl ?_
    refine g_iload_n (q := 18) hx d_Mo_edit_17 rfl rfl ?_
    refine g_ci (q := 21) (zrunV hx d_Mo_edit_18 lk_Mo_67 rfl rfl hq.g0 rfl rfl (Nat.le_of_ble_eq_true rfl) (by decide) (by omega) (by omega) (c_Mo_barred _ E Γ n _ m 30 len ref ur (nI kk) (nI v) (by rw [show (zsi M m 0 (nI 1)).2.2 = P from hP]; exact hq) hI0.1 (hI0.2.2.2.2.2.2.1 hg).1 (by omega) (mPs_fit huk) huk.2.2.2 huk.2.2.1 (mFits_ks huk.2.1))) rfl (fun r18 M1 p18 => ?_)
    obtain ⟨rfl, p18⟩ := p18
    obtain rfl : r18 = nI 0 := by
      rcases p18 with ⟨-, q1⟩ | ⟨k9, u9, w1, w2, w3, w4, w5, w6⟩
      · exact absurd ⟨kk, v, hv, rfl, hk, rfl, hz⟩ q1
      · obtain rfl := nI_inj4 w1 w2 hk
        obtain rfl := (nI_eq hv w4).mp w3
        exact (w6.resolve_left (fun q => q.2 hz2)).1
    refine g_istore_n (q := 22) (lc' := [(3, _), (0, _), (1, _), (2, _)]) hx d_Mo_edit_21 rfl (by decide) rfl ?_
    refine g_aload_n (q := 23) hx d_Mo_edit_22 rfl rfl ?_
    refine g_iload_n (q := 24) hx d_Mo_edit_23 rfl rfl ?_
    refine g_if_le (q := 27) (t := 33) hx d_Mo_edit_24 rfl rfl (zb_le0 (by omega)) (fun h24 => ?_) (fun h24 => ?_)
    · refine g_iconst (q := 34) (v := nI 0) hx d_Mo_edit_33 rfl (by decide) ?_
      refine g_puti (q := 37) hx d_Mo_edit_34 rfl fl_Mo_46 nf_7_0 hq.g0 ?_
      refine g_aload_n (q := 38) hx d_Mo_edit_37 rfl rfl ?_
      refine g_geti (q := 41) hx d_Mo_edit_38 rfl fl_Mo_46 hq.g0 (zi_s _ _ _ _) ?_
      refine g_if_ne (q := 44) (t := 52) hx d_Mo_edit_41 rfl rfl (zb_ne0 (by omega)) (fun h41 => ?_) (fun h41 => ?_)
      · exact absurd h41 (by omega)
      · refine g_aload_n (q := 45) hx d_Mo_edit_44 rfl rfl ?_
        refine g_bipush (q := 47) (v := nI 30) hx d_Mo_edit_45 rfl (by decide) ?_
        refine g_iload_n (q := 48) hx d_Mo_edit_47 rfl rfl ?_
        refine g_iload_n (q := 49) hx d_Mo_edit_48 rfl rfl ?_
        refine g_cv (q := 52) (zrunV hx d_Mo_edit_49 lk_Mo_71 rfl rfl hq.g0 rfl rfl (Nat.le_of_ble_eq_true rfl) (by decide) (by omega) (by omega) (c_Mo_append _ E Γ n _ m 30 ur kk v (by rw [show (zsi (zsi M m 0 (nI 1)) m 0 (nI 0)).2.2 = P from hP]; exact hq) ((hI0.2.2.2.2.2.2.1 hg).1.kp (A := bN) (I := bI0) (L := bN) (kF.rf.si rfl) rfl rfl rfl rfl rfl rfl) (by omega) huk.2.2.2 hk hz2 (mFits_ks huk.2.1))) rfl (fun M2 p49 => ?_)
        obtain ⟨z1, x1, s1⟩ := p49
        exact g_vret hx d_Mo_edit_52 rfl hQ ⟨Nat.le_refl _, Nat.le_refl _⟩ ⟨rfl, rfl, rfl, by
              have t0 : kF bN bI0 bN m M (zsi (zsi M m 0 (nI 1)) m 0 (nI 0)) := (kF.rf.si rfl).si rfl
              have t1 : kF bSA bI0 bN m M M2 := (t0.mono (bN_ _) (zSb_rf _) (zSb_rf _)).tr (z1.mono (zSb_rf _) (bN_ _) (bN_ _))
              have ho : ∀ r rd, r ≠ 30 → mOk ref len rd → qS M m r rd → qS M2 m r rd := fun r rd hr h9 h8 => qS.ot x1 hr h9.2.2.2 (h8.kp t0 rfl rfl rfl rfl rfl rfl)
              exact ⟨(z1.i 0 rfl).trans (zi_s _ _ _ _), t1.m, hI.1.kp t1 rfl rfl, ⟨(t1.i 3 rfl).trans hI.2.1.1, hI.2.1.2⟩, ⟨(t1.i 4 rfl).trans hI.2.2.1.1, hI.2.2.1.2⟩, ⟨(t1.i 5 rfl).trans hI.2.2.2.1.1, hI.2.2.2.1.2⟩, fun i hi => ⟨ho i _ (by omega) (hI.2.2.2.2.1 i hi).2 (hI.2.2.2.2.1 i hi).1, (hI.2.2.2.2.1 i hi).2⟩, fun i hi => ⟨ho (24 + i) _ (by omega) (hI.2.2.2.2.2.1 i hi).2 (hI.2.2.2.2.2.1 i hi).1, (hI.2.2.2.2.2.1 i hi).2⟩, fun _ => ⟨s1, mAdd_ok huk hz hz2⟩, hI.2.2.2.2.2.2.2.kp t1 rfl rfl⟩⟩
    · exact absurd h24 (by omega)
  · exact absurd (by omega) h9
set_option maxHeartbeats 4000000 in
set_option maxRecDepth 100000 in
theorem c_Mo_finish1 (l : Launch) (E : zE) (Γ : zG) (n : Nat) (M : zM) (m : Nat) (len c g k size : Nat) (ref arch : Nat → Nat) (fs hs : Nat → mRd) (ur : mRd) (hq : qX Γ M.2.2 m) (hI : qI M m len c g k size ref arch fs hs ur) (hz : g = 1 → mBc ur.2 = 0) : zCt l E Y_Mo_finish 1 (0, 0) [.ref m] Γ n M (zPi Γ n (fun v M' => M' = zsi M m 0 (nI 1))) := by
  refine zCt.of [(0, .ref m)] (by decide) (Nat.le_of_ble_eq_true rfl) rfl (fun f hfl hx hQ => ?_)
  obtain ⟨P, hP⟩ : ∃ P, M.2.2 = P := ⟨_, rfl⟩
  rw [hP] at hq
  have hm0 := hq.m0
  have hc24 := hI.2.1.2
  have hg1 := hI.2.2.2.1.2
  have hl160 := hI.1.2.2.1
  have hB : g = 1 → zi M (m + 4) 30 = nI (mBc ur.2) := fun hg => (hI.2.2.2.2.2.2.1 hg).1.2.2.1
  have hB20 : g = 1 → mBc ur.2 ≤ 20 := fun hg => (hI.2.2.2.2.2.2.1 hg).2.2.2.1
  have hz9 : g = 1 → ¬ ¬ mBc ur.2 = 0 := fun q => not_not_intro (hz q)
  refine g_aload_n (q := 1) hx d_Mo_finish_0 rfl rfl ?_
  refine g_aload_n (q := 2) hx d_Mo_finish_1 rfl rfl ?_
  refine g_getz (q := 5) hx d_Mo_finish_2 rfl fl_Mo_53 hq.g0 hI.2.2.2.1.1 ?_
  refine g_if_eq (q := 8) (t := 18) hx d_Mo_finish_5 rfl rfl (zb_eq0 (by omega)) (fun h5 => ?_) (fun h5 => ?_)
  · refine g_iconst (q := 19) (v := nI 1) hx d_Mo_finish_18 rfl (by decide) ?_
    refine g_goto (q := 36) hx d_Mo_finish_19 rfl ?_
    refine g_puti (q := 39) hx d_Mo_finish_36 rfl fl_Mo_46 nf_7_0 hq.g0 ?_
    refine g_aload_n (q := 40) hx d_Mo_finish_39 rfl rfl ?_
    refine g_geti (q := 43) hx d_Mo_finish_40 rfl fl_Mo_46 hq.g0 (zi_s _ _ _ _) ?_
    refine g_if_le (q := 46) (t := 48) hx d_Mo_finish_43 rfl rfl (zb_le0 (by omega)) (fun h43 => ?_) (fun h43 => ?_)
    · exact absurd h43 (by omega)
    · refine g_iconst (q := 47) (v := nI 0) hx d_Mo_finish_46 rfl (by decide) ?_
      exact g_iret hx d_Mo_finish_47 rfl hQ ⟨Nat.le_refl _, Nat.le_refl _⟩ ⟨_, rfl, rfl, rfl, rfl⟩
  · have hb20 := hB20 (by omega)
    refine g_aload_n (q := 9) hx d_Mo_finish_8 rfl rfl ?_
    refine g_geta (q := 12) hx d_Mo_finish_9 rfl fl_Mo_19 hq.g0 (hq.p4 hP) (by first | exact Nat.succ_ne_zero _ | omega) ?_
    refine g_bipush (q := 14) (v := nI 30) hx d_Mo_finish_12 rfl (by decide) ?_
    refine g_iald (q := 15) hx d_Mo_finish_14 rfl hq.g4 rfl (by omega) (by decide) (hB (by omega)) ?_
    refine g_if_ne (q := 18) (t := 22) hx d_Mo_finish_15 rfl rfl (zb_ne0 (by omega)) (fun h15 => ?_) (fun h15 => ?_)
    · exact absurd h15 (hz9 (by omega))
    · refine g_iconst (q := 19) (v := nI 1) hx d_Mo_finish_18 rfl (by decide) ?_
      refine g_goto (q := 36) hx d_Mo_finish_19 rfl ?_
      refine g_puti (q := 39) hx d_Mo_finish_36 rfl fl_Mo_46 nf_7_0 hq.g0 ?_
      refine g_aload_n (q := 40) hx d_Mo_finish_39 rfl rfl ?_
      refine g_geti (q := 43) hx d_Mo_finish_40 rfl fl_Mo_46 hq.g0 (zi_s _ _ _ _) ?_
      refine g_if_le (q := 46) (t := 48) hx d_Mo_finish_43 rfl rfl (zb_le0 (by omega)) (fun h43 => ?_) (fun h43 => ?_)
      · exact absurd h43 (by omega)
      · refine g_iconst (q := 47) (v := nI 0) hx d_Mo_finish_46 rfl (by decide) ?_
        exact g_iret hx d_Mo_finish_47 rfl hQ ⟨Nat.le_refl _, Nat.le_refl _⟩ ⟨_, rfl, rfl, rfl, rfl⟩
set_option maxHeartbeats 4000000 in
set_option maxRecDepth 100000 in
theorem c_Mo_finish2 (l : Launch) (E : zE) (Γ : zG) (n : Nat) (M : zM) (m : Nat) (len c g k size : Nat) (ref arch : Nat → Nat) (fs hs : Nat → mRd) (ur : mRd) (hq : qX Γ M.2.2 m) (hI : qI M m len c g k size ref arch fs hs ur) (hg : g = 1) (hz : 0 < mBc ur.2) (hc : c = 24) : zCt l E Y_Mo_finish 1 (0, 0) [.ref m] Γ n M (zPi Γ n (fun v M' => M' = zsi M m 0 (nI 2))) := by
  refine zCt.of [(0, .ref m)] (by decide) (Nat.le_of_ble_eq_true rfl) rfl (fun f hfl hx hQ => ?_)
  obtain ⟨P, hP⟩ : ∃ P, M.2.2 = P := ⟨_, rfl⟩
  rw [hP] at hq
  have hm0 := hq.m0
  have hc24 := hI.2.1.2
  have hg1 := hI.2.2.2.1.2
  have hl160 := hI.1.2.2.1
  have hB : g = 1 → zi M (m + 4) 30 = nI (mBc ur.2) := fun hg => (hI.2.2.2.2.2.2.1 hg).1.2.2.1
  have hB20 : g = 1 → mBc ur.2 ≤ 20 := fun hg => (hI.2.2.2.2.2.2.1 hg).2.2.2.1
  have hb20 := hB20 hg
  refine g_aload_n (q := 1) hx d_Mo_finish_0 rfl rfl ?_
  refine g_aload_n (q := 2) hx d_Mo_finish_1 rfl rfl ?_
  refine g_getz (q := 5) hx d_Mo_finish_2 rfl fl_Mo_53 hq.g0 hI.2.2.2.1.1 ?_
  refine g_if_eq (q := 8) (t := 18) hx d_Mo_finish_5 rfl rfl (zb_eq0 (by omega)) (fun h5 => ?_) (fun h5 => ?_)
  · exact absurd h5 (by omega)
  · refine g_aload_n (q := 9) hx d_Mo_finish_8 rfl rfl ?_
    refine g_geta (q := 12) hx d_Mo_finish_9 rfl fl_Mo_19 hq.g0 (hq.p4 hP) (by first | exact Nat.succ_ne_zero _ | omega) ?_
    refine g_bipush (q := 14) (v := nI 30) hx d_Mo_finish_12 rfl (by decide) ?_
    refine g_iald (q := 15) hx d_Mo_finish_14 rfl hq.g4 rfl (by omega) (by decide) (hB hg) ?_
    refine g_if_ne (q := 18) (t := 22) hx d_Mo_finish_15 rfl rfl (zb_ne0 (by omega)) (fun h15 => ?_) (fun h15 => ?_)
    · refine g_aload_n (q := 23) hx d_Mo_finish_22 rfl rfl ?_
      refine g_geti (q := 26) hx d_Mo_finish_23 rfl fl_Mo_50 hq.g0 hI.2.1.1 ?_
      refine g_bipush (q := 28) (v := nI 24) hx d_Mo_finish_26 rfl (by decide) ?_
      refine g_icmp_ne (q := 31) (t := 35) hx d_Mo_finish_28 rfl rfl (not_congr (nI_eq (by omega) (by omega))) (fun h28 => ?_) (fun h28 => ?_)
      · exact absurd h28 (by omega)
      · refine g_iconst (q := 32) (v := nI 2) hx d_Mo_finish_31 rfl (by decide) ?_
        refine g_goto (q := 36) hx d_Mo_finish_32 rfl ?_
        refine g_puti (q := 39) hx d_Mo_finish_36 rfl fl_Mo_46 nf_7_0 hq.g0 ?_
        refine g_aload_n (q := 40) hx d_Mo_finish_39 rfl rfl ?_
        refine g_geti (q := 43) hx d_Mo_finish_40 rfl fl_Mo_46 hq.g0 (zi_s _ _ _ _) ?_
        refine g_if_le (q := 46) (t := 48) hx d_Mo_finish_43 rfl rfl (zb_le0 (by omega)) (fun h43 => ?_) (fun h43 => ?_)
        · exact absurd h43 (by omega)
        · refine g_iconst (q := 47) (v := nI 0) hx d_Mo_finish_46 rfl (by decide) ?_
          exact g_iret hx d_Mo_finish_47 rfl hQ ⟨Nat.le_refl _, Nat.le_refl _⟩ ⟨_, rfl, rfl, rfl, rfl⟩
    · exact absurd (by omega) h15
def bIf : Nat → Bool := fun i => i == 0 || i == 3 || i == 5
set_option maxHeartbeats 4000000 in
set_option maxRecDepth 100000 in
theorem c_Mo_finish0 (l : Launch) (E : zE) (Γ : zG) (n : Nat) (M : zM) (m : Nat) (len c g k size : Nat) (ref arch : Nat → Nat) (fs hs : Nat → mRd) (ur : mRd) (hq : qX Γ M.2.2 m) (hI : qI M m len c g k size ref arch fs hs ur) (hg : g = 1) (hz : 0 < mBc ur.2) (hc : c < 24) : zCt l E Y_Mo_finish 1 (0, 0) [.ref m] Γ n M (zPi Γ n (fun v M' => v = nI c ∧ zi M' m 0 = nI 0 ∧ kM m M M' ∧ qI M' m len (c + 1) 0 k size ref arch (fun i => if i = c then ur else fs i) hs ur)) := by
  refine zCt.of [(0, .ref m)] (by decide) (Nat.le_of_ble_eq_true rfl) rfl (fun f hfl hx hQ => ?_)
  obtain ⟨P, hP⟩ : ∃ P, M.2.2 = P := ⟨_, rfl⟩
  rw [hP] at hq
  have hm0 := hq.m0
  have hc24 := hI.2.1.2
  have hg1 := hI.2.2.2.1.2
  have hl160 := hI.1.2.2.1
  have hB : g = 1 → zi M (m + 4) 30 = nI (mBc ur.2) := fun hg => (hI.2.2.2.2.2.2.1 hg).1.2.2.1
  have hB20 : g = 1 → mBc ur.2 ≤ 20 := fun hg => (hI.2.2.2.2.2.2.1 hg).2.2.2.1
  have hb20 := hB20 hg
  have hk3 := hI.2.2.1.2
  refine g_aload_n (q := 1) hx d_Mo_finish_0 rfl rfl ?_
  refine g_aload_n (q := 2) hx d_Mo_finish_1 rfl rfl ?_
  refine g_getz (q := 5) hx d_Mo_finish_2 rfl fl_Mo_53 hq.g0 hI.2.2.2.1.1 ?_
  refine g_if_eq (q := 8) (t := 18) hx d_Mo_finish_5 rfl rfl (zb_eq0 (by omega)) (fun h5 => ?_) (fun h5 => ?_)
  · exact absurd h5 (by omega)
  · refine g_aload_n (q := 9) hx d_Mo_finish_8 rfl rfl ?_
    refine g_geta (q := 12) hx d_Mo_finish_9 rfl fl_Mo_19 hq.g0 (hq.p4 hP) (by first | exact Nat.succ_ne_zero _ | omega) ?_
    refine g_bipush (q := 14) (v := nI 30) hx d_Mo_finish_12 rfl (by decide) ?_
    refine g_iald (q := 15) hx d_Mo_finish_14 rfl hq.g4 rfl (by omega) (by decide) (hB hg) ?_
    refine g_if_ne (q := 18) (t := 22) hx d_Mo_finish_15 rfl rfl (zb_ne0 (by omega)) (fun h15 => ?_) (fun h15 => ?_)
    · refine g_aload_n (q := 23) hx d_Mo_finish_22 rfl rfl ?_
      refine g_geti (q := 26) hx d_Mo_finish_23 rfl fl_Mo_50 hq.g0 hI.2.1.1 ?_
      refine g_bipush (q := 28) (v := nI 24) hx d_Mo_finish_26 rfl (by decide) ?_
      refine g_icmp_ne (q := 31) (t := 35) hx d_Mo_finish_28 rfl rfl (not_congr (nI_eq (by omega) (by omega))) (fun h28 => ?_) (fun h28 => ?_)
      · refine g_iconst (q := 36) (v := nI 0) hx d_Mo_finish_35 rfl (by decide) ?_
        refine g_puti (q := 39) hx d_Mo_finish_36 rfl fl_Mo_46 nf_7_0 hq.g0 ?_
        refine g_aload_n (q := 40) hx d_Mo_finish_39 rfl rfl ?_
        refine g_geti (q := 43) hx d_Mo_finish_40 rfl fl_Mo_46 hq.g0 (zi_s _ _ _ _) ?_
        refine g_if_le (q := 46) (t := 48) hx d_Mo_finish_43 rfl rfl (zb_le0 (by omega)) (fun h43 => ?_) (fun h43 => ?_)
        · refine g_aload_n (q := 49) hx d_Mo_finish_48 rfl rfl ?_
          refine g_bipush (q := 51) (v := nI 30) hx d_Mo_finish_49 rfl (by decide) ?_
          refine g_aload_n (q := 52) hx d_Mo_finish_51 rfl rfl ?_
          refine g_geti (q := 55) hx d_Mo_finish_52 rfl fl_Mo_50 hq.g0 ((zi_k (by decide)).trans hI.2.1.1) ?_
          refine g_cv (q := 58) (zrunV hx d_Mo_finish_55 lk_Mo_75 rfl rfl hq.g0 rfl rfl (Nat.le_of_ble_eq_true rfl) (by decide) (by omega) (by omega) (c_Mo_copy _ E Γ n _ m 30 c ur (by rw [show (zsi M m 0 (nI 0)).2.2 = P from hP]; exact hq) ((hI.2.2.2.2.2.2.1 hg).1.kp (A := bN) (I := bI0) (L := bN) (kF.rf.si rfl) rfl rfl rfl rfl rfl rfl) (by omega) (by omega) (by omega) (hI.2.2.2.2.2.2.1 hg).2.2.2.2)) rfl (fun M1 p55 => ?_)
          obtain ⟨z1, x1, s1⟩ := p55
          replace hP : M1.2.2 = P := z1.r.trans hP
          have c1 : zi M1 m 3 = nI c := (z1.i 3 rfl).trans ((zi_k (by decide)).trans hI.2.1.1)
          refine g_aload_n (q := 59) hx d_Mo_finish_58 rfl rfl ?_
          refine g_iconst (q := 60) (v := nI 0) hx d_Mo_finish_59 rfl (by decide) ?_
          refine g_putz (q := 63) hx d_Mo_finish_60 rfl fl_Mo_53 nf_7_5 hq.g0 (by decide) ?_
          refine g_aload_n (q := 64) hx d_Mo_finish_63 rfl rfl ?_
          refine g_dup (q := 65) hx d_Mo_finish_64 rfl rfl ?_
          refine g_geti (q := 68) hx d_Mo_finish_65 rfl fl_Mo_50 hq.g0 ((zi_k (by decide)).trans c1) ?_
          refine g_iconst (q := 69) (v := nI 1) hx d_Mo_finish_68 rfl (by decide) ?_
          refine g_iadd (q := 70) hx d_Mo_finish_69 rfl (nI_add _ _) ?_
          refine g_puti (q := 73) hx d_Mo_finish_70 rfl fl_Mo_50 nf_7_3 hq.g0 ?_
          refine g_aload_n (q := 74) hx d_Mo_finish_73 rfl rfl ?_
          refine g_geti (q := 77) hx d_Mo_finish_74 rfl fl_Mo_50 hq.g0 (zi_s _ _ _ _) ?_
          refine g_iconst (q := 78) (v := nI 1) hx d_Mo_finish_77 rfl (by decide) ?_
          refine g_isub (q := 79) hx d_Mo_finish_78 rfl (pk_sub (by omega)) ?_
          exact g_iret hx d_Mo_finish_79 rfl hQ ⟨Nat.le_refl _, Nat.le_refl _⟩ ⟨_, rfl, rfl, rfl, by
                have t0 : kF bN bIf bN m M (zsi M m 0 (nI 0)) := kF.rf.si rfl
                have t2 : kF bN bIf bN m M1 (zsi (zsi M1 m 5 (nI 0)) m 3 (nI (c + 1))) := (kF.rf.si rfl).si rfl
                have t1 : kF bSA bIf bN m M (zsi (zsi M1 m 5 (nI 0)) m 3 (nI (c + 1))) := ((t0.mono (bN_ _) (zSb_rf _) (zSb_rf _)).tr (z1.mono (zSb_rf _) (bN_ _) (bN_ _))).tr (t2.mono (bN_ _) (zSb_rf _) (zSb_rf _))
                have ho : ∀ r rd, r ≠ c → mOk ref len rd → qS M m r rd → qS (zsi (zsi M1 m 5 (nI 0)) m 3 (nI (c + 1))) m r rd := fun r rd hr h9 h8 => (qS.ot x1 hr h9.2.2.2 (h8.kp t0 rfl rfl rfl rfl rfl rfl)).kp t2 rfl rfl rfl rfl rfl rfl
                refine ⟨congrArg nI (Nat.add_sub_cancel c 1), (zi_k (by decide)).trans ((zi_k (by decide)).trans ((z1.i 0 rfl).trans (zi_s _ _ _ _))), t1.m, hI.1.kp t1 rfl rfl, ⟨zi_s _ _ _ _, by omega⟩, ⟨(t1.i 4 rfl).trans hI.2.2.1.1, hI.2.2.1.2⟩, ⟨(zi_k (by decide)).trans (zi_s _ _ _ _), Nat.zero_le _⟩, fun i hi => ?_, fun i hi => ⟨ho (24 + i) _ (by omega) (hI.2.2.2.2.2.1 i hi).2 (hI.2.2.2.2.2.1 i hi).1, (hI.2.2.2.2.2.1 i hi).2⟩, fun hg => absurd hg (by omega), hI.2.2.2.2.2.2.2.kp t1 rfl rfl⟩
                dsimp only
                by_cases e : i = c
                · rw [if_pos e, e]
                  exact ⟨s1.kp t2 rfl rfl rfl rfl rfl rfl, (hI.2.2.2.2.2.2.1 hg).2⟩
                · rw [if_neg e]
                  exact ⟨ho i _ e (hI.2.2.2.2.1 i (by omega)).2 (hI.2.2.2.2.1 i (by omega)).1, (hI.2.2.2.2.1 i (by omega)).2⟩⟩
        · exact absurd h43 (by omega)
      · exact absurd (by omega) h28
    · exact absurd (by omega) h15
theorem z_lt0 {y : Int32} {b : Nat} (h1 : ¬ y < 0) (h2 : y < nI b) (hb : b < 2 ^ 30) : ∃ u : Nat, u < b ∧ y = nI u := by
  rcases pk_ix y (n := b) (by omega) with h | h | ⟨u, h3, rfl⟩
  · exact absurd h h1
  · exact absurd h (i32_not_le h2)
  · exact ⟨u, h3, rfl⟩
set_option maxHeartbeats 4000000 in
set_option maxRecDepth 100000 in
theorem c_Mo_at1 (l : Launch) (E : zE) (Γ : zG) (n : Nat) (M : zM) (m : Nat) (len c g k size : Nat) (ref arch : Nat → Nat) (fs hs : Nat → mRd) (ur : mRd) (hq : qX Γ M.2.2 m) (hI : qI M m len c g k size ref arch fs hs ur) (y : Int32) (hy : ¬ ∃ u : Nat, u < size ∧ y = nI u) : zCt l E Y_Mo_at 0 (0, 0) [.ref m, .int y] Γ n M (zPi Γ n (fun v M' => M' = zsi M m 0 (nI 1))) := by
  refine zCt.of [(0, .ref m), (1, .int y)] (by decide) (Nat.le_of_ble_eq_true rfl) rfl (fun f hfl hx hQ => ?_)
  obtain ⟨P, hP⟩ : ∃ P, M.2.2 = P := ⟨_, rfl⟩
  rw [hP] at hq
  have hm0 := hq.m0
  have hs20 := hI.2.2.2.2.2.2.2.2.2.1
  refine g_aload_n (q := 1) hx d_Mo_at_0 rfl rfl ?_
  refine g_iload_n (q := 2) hx d_Mo_at_1 rfl rfl ?_
  refine g_if_lt (q := 5) (t := 13) hx d_Mo_at_2 rfl rfl Iff.rfl (fun h2 => ?_) (fun h2 => ?_)
  · refine g_iconst (q := 14) (v := nI 1) hx d_Mo_at_13 rfl (by decide) ?_
    refine g_goto (q := 18) hx d_Mo_at_14 rfl ?_
    refine g_puti (q := 21) hx d_Mo_at_18 rfl fl_Mo_46 nf_7_0 hq.g0 ?_
    refine g_aload_n (q := 22) hx d_Mo_at_21 rfl rfl ?_
    refine g_geti (q := 25) hx d_Mo_at_22 rfl fl_Mo_46 hq.g0 (zi_s _ _ _ _) ?_
    refine g_if_le (q := 28) (t := 32) hx d_Mo_at_25 rfl rfl (zb_le0 (by omega)) (fun h25 => ?_) (fun h25 => ?_)
    · exact absurd h25 (by omega)
    · refine g_iconst (q := 29) (v := nI 0) hx d_Mo_at_28 rfl (by decide) ?_
      refine g_goto (q := 38) hx d_Mo_at_29 rfl ?_
      exact g_iret hx d_Mo_at_38 rfl hQ ⟨Nat.le_refl _, Nat.le_refl _⟩ ⟨_, rfl, rfl, rfl, rfl⟩
  · refine g_iload_n (q := 6) hx d_Mo_at_5 rfl rfl ?_
    refine g_aload_n (q := 7) hx d_Mo_at_6 rfl rfl ?_
    refine g_geti (q := 10) hx d_Mo_at_7 rfl fl_Mo_136 hq.g0 hI.2.2.2.2.2.2.2.1 ?_
    refine g_icmp_lt (q := 13) (t := 17) hx d_Mo_at_10 rfl rfl Iff.rfl (fun h10 => ?_) (fun h10 => ?_)
    · exact absurd (z_lt0 h2 h10 (by omega)) hy
    · refine g_iconst (q := 14) (v := nI 1) hx d_Mo_at_13 rfl (by decide) ?_
      refine g_goto (q := 18) hx d_Mo_at_14 rfl ?_
      refine g_puti (q := 21) hx d_Mo_at_18 rfl fl_Mo_46 nf_7_0 hq.g0 ?_
      refine g_aload_n (q := 22) hx d_Mo_at_21 rfl rfl ?_
      refine g_geti (q := 25) hx d_Mo_at_22 rfl fl_Mo_46 hq.g0 (zi_s _ _ _ _) ?_
      refine g_if_le (q := 28) (t := 32) hx d_Mo_at_25 rfl rfl (zb_le0 (by omega)) (fun h25 => ?_) (fun h25 => ?_)
      · exact absurd h25 (by omega)
      · refine g_iconst (q := 29) (v := nI 0) hx d_Mo_at_28 rfl (by decide) ?_
        refine g_goto (q := 38) hx d_Mo_at_29 rfl ?_
        exact g_iret hx d_Mo_at_38 rfl hQ ⟨Nat.le_refl _, Nat.le_refl _⟩ ⟨_, rfl, rfl, rfl, rfl⟩
set_option maxHeartbeats 4000000 in
set_option maxRecDepth 100000 in
theorem c_Mo_at0 (l : Launch) (E : zE) (Γ : zG) (n : Nat) (M : zM) (m : Nat) (len c g k size : Nat) (ref arch : Nat → Nat) (fs hs : Nat → mRd) (ur : mRd) (hq : qX Γ M.2.2 m) (hI : qI M m len c g k size ref arch fs hs ur) (u : Nat) (hu : u < size) : zCt l E Y_Mo_at 0 (0, 0) [.ref m, .int (nI u)] Γ n M (zPi Γ n (fun v M' => v = nI (arch u) ∧ M' = zsi M m 0 (nI 0))) := by
  refine zCt.of [(0, .ref m), (1, .int (nI u))] (by decide) (Nat.le_of_ble_eq_true rfl) rfl (fun f hfl hx hQ => ?_)
  obtain ⟨P, hP⟩ : ∃ P, M.2.2 = P := ⟨_, rfl⟩
  rw [hP] at hq
  have hm0 := hq.m0
  have hs20 := hI.2.2.2.2.2.2.2.2.2.1
  refine g_aload_n (q := 1) hx d_Mo_at_0 rfl rfl ?_
  refine g_iload_n (q := 2) hx d_Mo_at_1 rfl rfl ?_
  refine g_if_lt (q := 5) (t := 13) hx d_Mo_at_2 rfl rfl (zb_lt0 (by omega)) (fun h2 => ?_) (fun h2 => ?_)
  · exact h2.elim
  · refine g_iload_n (q := 6) hx d_Mo_at_5 rfl rfl ?_
    refine g_aload_n (q := 7) hx d_Mo_at_6 rfl rfl ?_
    refine g_geti (q := 10) hx d_Mo_at_7 rfl fl_Mo_136 hq.g0 hI.2.2.2.2.2.2.2.1 ?_
    refine g_icmp_lt (q := 13) (t := 17) hx d_Mo_at_10 rfl rfl (nI_ltI (by omega) (by omega)) (fun h10 => ?_) (fun h10 => ?_)
    · refine g_iconst (q := 18) (v := nI 0) hx d_Mo_at_17 rfl (by decide) ?_
      refine g_puti (q := 21) hx d_Mo_at_18 rfl fl_Mo_46 nf_7_0 hq.g0 ?_
      refine g_aload_n (q := 22) hx d_Mo_at_21 rfl rfl ?_
      refine g_geti (q := 25) hx d_Mo_at_22 rfl fl_Mo_46 hq.g0 (zi_s _ _ _ _) ?_
      refine g_if_le (q := 28) (t := 32) hx d_Mo_at_25 rfl rfl (zb_le0 (by omega)) (fun h25 => ?_) (fun h25 => ?_)
      · refine g_aload_n (q := 33) hx d_Mo_at_32 rfl rfl ?_
        refine g_geta (q := 36) hx d_Mo_at_33 rfl fl_Mo_31 hq.g0 (hq.p8 hP) (by first | exact Nat.succ_ne_zero _ | omega) ?_
        refine g_iload_n (q := 37) hx d_Mo_at_36 rfl rfl ?_
        refine g_iald (q := 38) hx d_Mo_at_37 rfl hq.g8 rfl (by omega) (by decide) ((zi_a (by omega)).trans (hI.2.2.2.2.2.2.2.2.1 u hu)) ?_
        exact g_iret hx d_Mo_at_38 rfl hQ ⟨Nat.le_refl _, Nat.le_refl _⟩ ⟨_, rfl, rfl, rfl, rfl, rfl⟩
      · exact absurd h25 (by omega)
    · exact absurd (by omega) h10
set_option maxHeartbeats 4000000 in
set_option maxRecDepth 100000 in
theorem c_Mo_corrupt1 (l : Launch) (E : zE) (Γ : zG) (n : Nat) (M : zM) (m : Nat) (len c g k size : Nat) (ref arch : Nat → Nat) (fs hs : Nat → mRd) (ur : mRd) (hq : qX Γ M.2.2 m) (hI : qI M m len c g k size ref arch fs hs ur) (y b : Int32) (hy : ¬ ∃ u : Nat, u < size ∧ y = nI u) : zCt l E Y_Mo_corrupt 0 (0, 0) [.ref m, .int y, .int b] Γ n M (zPv Γ n (fun M' => M' = zsi M m 0 (nI 1))) := by
  refine zCt.of [(0, .ref m), (1, .int y), (2, .int b)] (by decide) (Nat.le_of_ble_eq_true rfl) rfl (fun f hfl hx hQ => ?_)
  obtain ⟨P, hP⟩ : ∃ P, M.2.2 = P := ⟨_, rfl⟩
  rw [hP] at hq
  have hm0 := hq.m0
  have hs20 := hI.2.2.2.2.2.2.2.2.2.1
  refine g_aload_n (q := 1) hx d_Mo_corrupt_0 rfl rfl ?_
  refine g_iload_n (q := 2) hx d_Mo_corrupt_1 rfl rfl ?_
  refine g_if_lt (q := 5) (t := 13) hx d_Mo_corrupt_2 rfl rfl Iff.rfl (fun h2 => ?_) (fun h2 => ?_)
  · refine g_iconst (q := 14) (v := nI 1) hx d_Mo_corrupt_13 rfl (by decide) ?_
    refine g_goto (q := 33) hx d_Mo_corrupt_14 rfl ?_
    refine g_puti (q := 36) hx d_Mo_corrupt_33 rfl fl_Mo_46 nf_7_0 hq.g0 ?_
    refine g_aload_n (q := 37) hx d_Mo_corrupt_36 rfl rfl ?_
    refine g_geti (q := 40) hx d_Mo_corrupt_37 rfl fl_Mo_46 hq.g0 (zi_s _ _ _ _) ?_
    refine g_if_ne (q := 43) (t := 50) hx d_Mo_corrupt_40 rfl rfl (zb_ne0 (by omega)) (fun h40 => ?_) (fun h40 => ?_)
    · exact g_vret hx d_Mo_corrupt_50 rfl hQ ⟨Nat.le_refl _, Nat.le_refl _⟩ ⟨rfl, rfl, rfl, rfl⟩
    · exact absurd h40 (by omega)
  · refine g_iload_n (q := 6) hx d_Mo_corrupt_5 rfl rfl ?_
    refine g_aload_n (q := 7) hx d_Mo_corrupt_6 rfl rfl ?_
    refine g_geti (q := 10) hx d_Mo_corrupt_7 rfl fl_Mo_136 hq.g0 hI.2.2.2.2.2.2.2.1 ?_
    refine g_icmp_lt (q := 13) (t := 17) hx d_Mo_corrupt_10 rfl rfl Iff.rfl (fun h10 => ?_) (fun h10 => ?_)
    · exact absurd (z_lt0 h2 h10 (by omega)) hy
    · refine g_iconst (q := 14) (v := nI 1) hx d_Mo_corrupt_13 rfl (by decide) ?_
      refine g_goto (q := 33) hx d_Mo_corrupt_14 rfl ?_
      refine g_puti (q := 36) hx d_Mo_corrupt_33 rfl fl_Mo_46 nf_7_0 hq.g0 ?_
      refine g_aload_n (q := 37) hx d_Mo_corrupt_36 rfl rfl ?_
      refine g_geti (q := 40) hx d_Mo_corrupt_37 rfl fl_Mo_46 hq.g0 (zi_s _ _ _ _) ?_
      refine g_if_ne (q := 43) (t := 50) hx d_Mo_corrupt_40 rfl rfl (zb_ne0 (by omega)) (fun h40 => ?_) (fun h40 => ?_)
      · exact g_vret hx d_Mo_corrupt_50 rfl hQ ⟨Nat.le_refl _, Nat.le_refl _⟩ ⟨rfl, rfl, rfl, rfl⟩
      · exact absurd h40 (by omega)
set_option maxHeartbeats 4000000 in
set_option maxRecDepth 100000 in
theorem c_Mo_corrupt2 (l : Launch) (E : zE) (Γ : zG) (n : Nat) (M : zM) (m : Nat) (len c g k size : Nat) (ref arch : Nat → Nat) (fs hs : Nat → mRd) (ur : mRd) (hq : qX Γ M.2.2 m) (hI : qI M m len c g k size ref arch fs hs ur) (u : Nat) (b : Int32) (hu : u < size) (hb : ¬ ∃ v : Nat, 0 ≤ v ∧ v ≤ 255 ∧ b = nI v) : zCt l E Y_Mo_corrupt 0 (0, 0) [.ref m, .int (nI u), .int b] Γ n M (zPv Γ n (fun M' => M' = zsi M m 0 (nI 2))) := by
  refine zCt.of [(0, .ref m), (1, .int (nI u)), (2, .int b)] (by decide) (Nat.le_of_ble_eq_true rfl) rfl (fun f hfl hx hQ => ?_)
  obtain ⟨P, hP⟩ : ∃ P, M.2.2 = P := ⟨_, rfl⟩
  rw [hP] at hq
  have hm0 := hq.m0
  have hs20 := hI.2.2.2.2.2.2.2.2.2.1
  refine g_aload_n (q := 1) hx d_Mo_corrupt_0 rfl rfl ?_
  refine g_iload_n (q := 2) hx d_Mo_corrupt_1 rfl rfl ?_
  refine g_if_lt (q := 5) (t := 13) hx d_Mo_corrupt_2 rfl rfl (zb_lt0 (by omega)) (fun h2 => ?_) (fun h2 => ?_)
  · exact h2.elim
  · refine g_iload_n (q := 6) hx d_Mo_corrupt_5 rfl rfl ?_
    refine g_aload_n (q := 7) hx d_Mo_corrupt_6 rfl rfl ?_
    refine g_geti (q := 10) hx d_Mo_corrupt_7 rfl fl_Mo_136 hq.g0 hI.2.2.2.2.2.2.2.1 ?_
    refine g_icmp_lt (q := 13) (t := 17) hx d_Mo_corrupt_10 rfl rfl (nI_ltI (by omega) (by omega)) (fun h10 => ?_) (fun h10 => ?_)
    · refine g_iload_n (q := 18) hx d_Mo_corrupt_17 rfl rfl ?_
      refine g_if_lt (q := 21) (t := 28) hx d_Mo_corrupt_18 rfl rfl Iff.rfl (fun h18 => ?_) (fun h18 => ?_)
      · refine g_iconst (q := 29) (v := nI 2) hx d_Mo_corrupt_28 rfl (by decide) ?_
        refine g_goto (q := 33) hx d_Mo_corrupt_29 rfl ?_
        refine g_puti (q := 36) hx d_Mo_corrupt_33 rfl fl_Mo_46 nf_7_0 hq.g0 ?_
        refine g_aload_n (q := 37) hx d_Mo_corrupt_36 rfl rfl ?_
        refine g_geti (q := 40) hx d_Mo_corrupt_37 rfl fl_Mo_46 hq.g0 (zi_s _ _ _ _) ?_
        refine g_if_ne (q := 43) (t := 50) hx d_Mo_corrupt_40 rfl rfl (zb_ne0 (by omega)) (fun h40 => ?_) (fun h40 => ?_)
        · exact g_vret hx d_Mo_corrupt_50 rfl hQ ⟨Nat.le_refl _, Nat.le_refl _⟩ ⟨rfl, rfl, rfl, rfl⟩
        · exact absurd h40 (by omega)
      · refine g_iload_n (q := 22) hx d_Mo_corrupt_21 rfl rfl ?_
        refine g_sipush (q := 25) (v := nI 255) hx d_Mo_corrupt_22 rfl (by decide) ?_
        refine g_icmp_le (q := 28) (t := 32) hx d_Mo_corrupt_25 rfl rfl Iff.rfl (fun h25 => ?_) (fun h25 => ?_)
        · exact absurd (z_in (a := 0) (by rw [nI_0]; exact h18) h25 (by omega)) hb
        · refine g_iconst (q := 29) (v := nI 2) hx d_Mo_corrupt_28 rfl (by decide) ?_
          refine g_goto (q := 33) hx d_Mo_corrupt_29 rfl ?_
          refine g_puti (q := 36) hx d_Mo_corrupt_33 rfl fl_Mo_46 nf_7_0 hq.g0 ?_
          refine g_aload_n (q := 37) hx d_Mo_corrupt_36 rfl rfl ?_
          refine g_geti (q := 40) hx d_Mo_corrupt_37 rfl fl_Mo_46 hq.g0 (zi_s _ _ _ _) ?_
          refine g_if_ne (q := 43) (t := 50) hx d_Mo_corrupt_40 rfl rfl (zb_ne0 (by omega)) (fun h40 => ?_) (fun h40 => ?_)
          · exact g_vret hx d_Mo_corrupt_50 rfl hQ ⟨Nat.le_refl _, Nat.le_refl _⟩ ⟨rfl, rfl, rfl, rfl⟩
          · exact absurd h40 (by omega)
    · exact absurd (by omega) h10
def bA8 : Nat → Bool := fun i => i == 8
set_option maxHeartbeats 4000000 in
set_option maxRecDepth 100000 in
theorem c_Mo_corrupt0 (l : Launch) (E : zE) (Γ : zG) (n : Nat) (M : zM) (m : Nat) (len c g k size : Nat) (ref arch : Nat → Nat) (fs hs : Nat → mRd) (ur : mRd) (hq : qX Γ M.2.2 m) (hI : qI M m len c g k size ref arch fs hs ur) (u v : Nat) (hu : u < size) (hv : v ≤ 255) : zCt l E Y_Mo_corrupt 0 (0, 0) [.ref m, .int (nI u), .int (nI v)] Γ n M (zPv Γ n (fun M' => zi M' m 0 = nI 0 ∧ kM m M M' ∧ qI M' m len c g k size ref (mUp arch u v) fs hs ur)) := by
  refine zCt.of [(0, .ref m), (1, .int (nI u)), (2, .int (nI v))] (by decide) (Nat.le_of_ble_eq_true rfl) rfl (fun f hfl hx hQ => ?_)
  obtain ⟨P, hP⟩ : ∃ P, M.2.2 = P := ⟨_, rfl⟩
  rw [hP] at hq
  have hm0 := hq.m0
  have hs20 := hI.2.2.2.2.2.2.2.2.2.1
  refine g_aload_n (q := 1) hx d_Mo_corrupt_0 rfl rfl ?_
  refine g_iload_n (q := 2) hx d_Mo_corrupt_1 rfl rfl ?_
  refine g_if_lt (q := 5) (t := 13) hx d_Mo_corrupt_2 rfl rfl (zb_lt0 (by omega)) (fun h2 => ?_) (fun h2 => ?_)
  · exact h2.elim
  · refine g_iload_n (q := 6) hx d_Mo_corrupt_5 rfl rfl ?_
    refine g_aload_n (q := 7) hx d_Mo_corrupt_6 rfl rfl ?_
    refine g_geti (q := 10) hx d_Mo_corrupt_7 rfl fl_Mo_136 hq.g0 hI.2.2.2.2.2.2.2.1 ?_
    refine g_icmp_lt (q := 13) (t := 17) hx d_Mo_corrupt_10 rfl rfl (nI_ltI (by omega) (by omega)) (fun h10 => ?_) (fun h10 => ?_)
    · refine g_iload_n (q := 18) hx d_Mo_corrupt_17 rfl rfl ?_
      refine g_if_lt (q := 21) (t := 28) hx d_Mo_corrupt_18 rfl rfl (zb_lt0 (by omega)) (fun h18 => ?_) (fun h18 => ?_)
      · exact h18.elim
      · refine g_iload_n (q := 22) hx d_Mo_corrupt_21 rfl rfl ?_
        refine g_sipush (q := 25) (v := nI 255) hx d_Mo_corrupt_22 rfl (by decide) ?_
        refine g_icmp_le (q := 28) (t := 32) hx d_Mo_corrupt_25 rfl rfl (nI_leI (by omega) (by omega)) (fun h25 => ?_) (fun h25 => ?_)
        · refine g_iconst (q := 33) (v := nI 0) hx d_Mo_corrupt_32 rfl (by decide) ?_
          refine g_puti (q := 36) hx d_Mo_corrupt_33 rfl fl_Mo_46 nf_7_0 hq.g0 ?_
          refine g_aload_n (q := 37) hx d_Mo_corrupt_36 rfl rfl ?_
          refine g_geti (q := 40) hx d_Mo_corrupt_37 rfl fl_Mo_46 hq.g0 (zi_s _ _ _ _) ?_
          refine g_if_ne (q := 43) (t := 50) hx d_Mo_corrupt_40 rfl rfl (zb_ne0 (by omega)) (fun h40 => ?_) (fun h40 => ?_)
          · exact absurd h40 (by omega)
          · refine g_aload_n (q := 44) hx d_Mo_corrupt_43 rfl rfl ?_
            refine g_geta (q := 47) hx d_Mo_corrupt_44 rfl fl_Mo_31 hq.g0 (hq.p8 hP) (by first | exact Nat.succ_ne_zero _ | omega) ?_
            refine g_iload_n (q := 48) hx d_Mo_corrupt_47 rfl rfl ?_
            refine g_iload_n (q := 49) hx d_Mo_corrupt_48 rfl rfl ?_
            refine g_iast (q := 50) hx d_Mo_corrupt_49 rfl hq.g8 rfl (by omega) (by decide) ?_
            exact g_vret hx d_Mo_corrupt_50 rfl hQ ⟨Nat.le_refl _, Nat.le_refl _⟩ ⟨rfl, rfl, rfl, by
                  have t1 : kF bA8 bI0 bN m M (zsi (zsi M m 0 (nI 0)) (m + 8) u (nI v)) := (kF.rf.si rfl).sa rfl (by decide) (by decide)
                  have ho : ∀ r rd, qS M m r rd → qS (zsi (zsi M m 0 (nI 0)) (m + 8) u (nI v)) m r rd := fun r rd h => h.kp t1 rfl rfl rfl rfl rfl rfl
                  refine ⟨(zi_a (by omega)).trans (zi_s _ _ _ _), t1.m, hI.1.kp t1 rfl rfl, ⟨(t1.i 3 rfl).trans hI.2.1.1, hI.2.1.2⟩, ⟨(t1.i 4 rfl).trans hI.2.2.1.1, hI.2.2.1.2⟩, ⟨(t1.i 5 rfl).trans hI.2.2.2.1.1, hI.2.2.2.1.2⟩, fun i hi => ⟨ho _ _ (hI.2.2.2.2.1 i hi).1, (hI.2.2.2.2.1 i hi).2⟩, fun i hi => ⟨ho _ _ (hI.2.2.2.2.2.1 i hi).1, (hI.2.2.2.2.2.1 i hi).2⟩, fun hg => ⟨ho _ _ (hI.2.2.2.2.2.2.1 hg).1, (hI.2.2.2.2.2.2.1 hg).2⟩, (t1.i 12 rfl).trans hI.2.2.2.2.2.2.2.1, fun j hj => ?_, hs20, fun j => ?_⟩
                  · by_cases e : j = u
                    · subst e; rw [zi_s, mUp_s]
                    · rw [zi_k e, mUp_n e, zi_a (by omega)]; exact hI.2.2.2.2.2.2.2.2.1 j hj
                  · unfold mUp; split
                    · omega
                    · exact hI.2.2.2.2.2.2.2.2.2.2 j⟩
        · exact absurd (by omega) h25
    · exact absurd (by omega) h10
