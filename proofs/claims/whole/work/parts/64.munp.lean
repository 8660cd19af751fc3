/-- what take leaves of the rest -/
theorem qI.kT {m : Nat} {M M' : zM} {len c g k size : Nat} {ref arch : Nat → Nat} {fs hs : Nat → mRd} {ur : mRd} (hI : qI M m len c g k size ref arch fs hs ur) (h : kF bKA bKI bKL m M M') (ht : kT m M M') : qI M' m len c g k size ref arch fs hs ur := by
  obtain ⟨q1, q2, q3, q4, q5, q6, q7, q8⟩ := hI
  have hc := q2.2
  have hk := q3.2
  exact ⟨q1.kp h rfl rfl, ⟨(h.i 3 rfl).trans q2.1, q2.2⟩, ⟨(h.i 4 rfl).trans q3.1, q3.2⟩, ⟨(h.i 5 rfl).trans q4.1, q4.2⟩, fun i hi => ⟨qS.oT ht (by omega) (q5 i hi).2.2.2.2 (q5 i hi).1, (q5 i hi).2⟩, fun i hi => ⟨qS.oT ht (by omega) (q6 i hi).2.2.2.2 (q6 i hi).1, (q6 i hi).2⟩, fun hg => ⟨qS.oT ht (by omega) (q7 hg).2.2.2.2 (q7 hg).1, (q7 hg).2⟩, q8.kp h rfl rfl⟩
set_option maxHeartbeats 4000000 in
set_option maxRecDepth 100000 in
theorem c_Mo_unpack1 (l : Launch) (E : zE) (Γ : zG) (n : Nat) (M : zM) (m : Nat) (len c g k size : Nat) (ref arch : Nat → Nat) (fs hs : Nat → mRd) (ur : mRd) (hq : qX Γ M.2.2 m) (hI : qI M m len c g k size ref arch fs hs ur) (y : Int32) (hy : ¬ ∃ i : Nat, y = nI i ∧ mBeg arch size i < size) : zCt l E Y_Mo_unpack 6 (0, 0) [.ref m, .int y] Γ n M (zPi Γ n (fun v M' => M' = zsi M m 0 (nI 1))) := by
  refine zCt.of [(0, .ref m), (1, .int y)] (by decide) (Nat.le_of_ble_eq_true rfl) rfl (fun f hfl hx hQ => ?_)
  obtain ⟨P, hP⟩ : ∃ P, M.2.2 = P := ⟨_, rfl⟩
  rw [hP] at hq
  have hm0 := hq.m0
  have hs20 := hI.2.2.2.2.2.2.2.2.2.1
  refine g_aload_n (q := 1) hx d_Mo_unpack_0 rfl rfl ?_
  refine g_iload_n (q := 2) hx d_Mo_unpack_1 rfl rfl ?_
  refine g_ci (q := 5) (zrunV hx d_Mo_unpack_2 lk_Mo_142 rfl rfl hq.g0 rfl rfl (Nat.le_of_ble_eq_true rfl) (by decide) (by omega) (by omega) (c_Mo_beginOf _ E Γ n _ m len c g k size ref arch fs hs ur (by rw [hP]; exact hq) hI y)) rfl (fun r2 M1 p2 => ?_)
  obtain ⟨rfl, p2⟩ := p2
  obtain rfl : r2 = -1 := by
    rcases p2 with ⟨i, w1, w2, -⟩ | q
    · exact absurd ⟨i, w1, w2⟩ hy
    · exact q.1
  clear p2
  refine g_istore_n (q := 6) (lc' := [(2, _), (0, _), (1, _)]) hx d_Mo_unpack_5 rfl (by decide) rfl ?_
  refine g_iload_n (q := 7) hx d_Mo_unpack_6 rfl rfl ?_
  refine g_if_ge (q := 10) (t := 14) hx d_Mo_unpack_7 rfl rfl Iff.rfl (fun h7 => ?_) (fun h7 => ?_)
  · exact absurd h7 (by decide)
  · refine g_iconst (q := 11) (v := nI 0) hx d_Mo_unpack_10 rfl (by decide) ?_
    refine g_goto (q := 19) hx d_Mo_unpack_11 rfl ?_
    refine g_istore_n (q := 20) (lc' := [(3, _), (2, _), (0, _), (1, _)]) hx d_Mo_unpack_19 rfl (by decide) rfl ?_
    refine g_aload_n (q := 21) hx d_Mo_unpack_20 rfl rfl ?_
    refine g_iload_n (q := 22) hx d_Mo_unpack_21 rfl rfl ?_
    refine g_if_ge (q := 25) (t := 29) hx d_Mo_unpack_22 rfl rfl Iff.rfl (fun h22 => ?_) (fun h22 => ?_)
    · exact absurd h22 (by decide)
    · refine g_iconst (q := 26) (v := nI 1) hx d_Mo_unpack_25 rfl (by decide) ?_
      refine g_goto (q := 38) hx d_Mo_unpack_26 rfl ?_
      refine g_puti (q := 41) hx d_Mo_unpack_38 rfl fl_Mo_46 nf_7_0 hq.g0 ?_
      refine g_aload_n (q := 42) hx d_Mo_unpack_41 rfl rfl ?_
      refine g_geti (q := 45) hx d_Mo_unpack_42 rfl fl_Mo_46 hq.g0 (zi_s _ _ _ _) ?_
      refine g_if_le (q := 48) (t := 50) hx d_Mo_unpack_45 rfl rfl (zb_le0 (by omega)) (fun h45 => ?_) (fun h45 => ?_)
      · exact absurd h45 (by omega)
      · refine g_iconst (q := 49) (v := nI 0) hx d_Mo_unpack_48 rfl (by decide) ?_
        exact g_iret hx d_Mo_unpack_49 rfl hQ ⟨Nat.le_refl _, Nat.le_refl _⟩ ⟨_, rfl, rfl, rfl, rfl⟩
set_option maxHeartbeats 4000000 in
set_option maxRecDepth 100000 in
theorem c_Mo_unpack2 (l : Launch) (E : zE) (Γ : zG) (n : Nat) (M : zM) (m : Nat) (len c g k size : Nat) (ref arch : Nat → Nat) (fs hs : Nat → mRd) (ur : mRd) (hq : qX Γ M.2.2 m) (hI : qI M m len c g k size ref arch fs hs ur) (u : Nat) (hu : mBeg arch size u < size) (ht : mTake ref len arch size (mBeg arch size u) = none) : zCt l E Y_Mo_unpack 6 (0, 0) [.ref m, .int (nI u)] Γ n M (zPi Γ n (fun v M' => zi M' m 0 = nI 2 ∧ kM m M M' ∧ qI M' m len c g k size ref arch fs hs ur)) := by
  refine zCt.of [(0, .ref m), (1, .int (nI u))] (by decide) (Nat.le_of_ble_eq_true rfl) rfl (fun f hfl hx hQ => ?_)
  obtain ⟨P, hP⟩ : ∃ P, M.2.2 = P := ⟨_, rfl⟩
  rw [hP] at hq
  have hm0 := hq.m0
  have hs20 := hI.2.2.2.2.2.2.2.2.2.1
  have hc24 := hI.2.1.2
  have hk3 := hI.2.2.1.2
  refine g_aload_n (q := 1) hx d_Mo_unpack_0 rfl rfl ?_
  refine g_iload_n (q := 2) hx d_Mo_unpack_1 rfl rfl ?_
  refine g_ci (q := 5) (zrunV hx d_Mo_unpack_2 lk_Mo_142 rfl rfl hq.g0 rfl rfl (Nat.le_of_ble_eq_true rfl) (by decide) (by omega) (by omega) (c_Mo_beginOf _ E Γ n _ m len c g k size ref arch fs hs ur (by rw [hP]; exact hq) hI (nI u))) rfl (fun r2 M1 p2 => ?_)
  obtain ⟨rfl, p2⟩ := p2
  obtain rfl : r2 = nI (mBeg arch size u) := by
    have h5 := mBeg_ge arch size u
    rcases p2 with ⟨i, w1, w2, w3⟩ | q
    · have h6 := mBeg_ge arch size i
      obtain rfl := (nI_eq (by omega) (by omega)).mp w1
      exact w3
    · exact absurd ⟨u, by omega, rfl, hu⟩ q.2
  clear p2
  generalize hbe : mBeg arch size u = b at *
  refine g_istore_n (q := 6) (lc' := [(2, _), (0, _), (1, _)]) hx d_Mo_unpack_5 rfl (by decide) rfl ?_
  refine g_iload_n (q := 7) hx d_Mo_unpack_6 rfl rfl ?_
  refine g_if_ge (q := 10) (t := 14) hx d_Mo_unpack_7 rfl rfl (zb_ge0 (by omega)) (fun h7 => ?_) (fun h7 => ?_)
  · refine g_aload_n (q := 15) hx d_Mo_unpack_14 rfl rfl ?_
    refine g_iload_n (q := 16) hx d_Mo_unpack_15 rfl rfl ?_
    refine g_ci (q := 19) (zrunV hx d_Mo_unpack_16 lk_Mo_172 rfl rfl hq.g0 rfl rfl (Nat.le_of_ble_eq_true rfl) (by decide) (by omega) (by omega) (c_Mo_take _ E Γ n _ m len size b ref arch (by rw [hP]; exact hq) hI.1 hI.2.2.2.2.2.2.2 (by omega))) rfl (fun r16 M2 p16 => ?_)
    obtain ⟨k1, kt1, p16⟩ := p16
    replace hP : M2.2.2 = P := k1.r.trans hP
    obtain rfl : r16 = nI 0 := by
      rcases p16 with ⟨rs, e9, -⟩ | q
      · rw [e9] at ht; exact (nomatch ht)
      · exact q.1
    clear p16
    refine g_istore_n (q := 20) (lc' := [(3, _), (2, _), (0, _), (1, _)]) hx d_Mo_unpack_19 rfl (by decide) rfl ?_
    refine g_aload_n (q := 21) hx d_Mo_unpack_20 rfl rfl ?_
    refine g_iload_n (q := 22) hx d_Mo_unpack_21 rfl rfl ?_
    refine g_if_ge (q := 25) (t := 29) hx d_Mo_unpack_22 rfl rfl (zb_ge0 (by omega)) (fun h22 => ?_) (fun h22 => ?_)
    · refine g_iload_n (q := 30) hx d_Mo_unpack_29 rfl rfl ?_
      refine g_if_ne (q := 33) (t := 37) hx d_Mo_unpack_30 rfl rfl (zb_ne0 (by omega)) (fun h30 => ?_) (fun h30 => ?_)
      · exact absurd h30 (by omega)
      · refine g_iconst (q := 34) (v := nI 2) hx d_Mo_unpack_33 rfl (by decide) ?_
        refine g_goto (q := 38) hx d_Mo_unpack_34 rfl ?_
        refine g_puti (q := 41) hx d_Mo_unpack_38 rfl fl_Mo_46 nf_7_0 hq.g0 ?_
        refine g_aload_n (q := 42) hx d_Mo_unpack_41 rfl rfl ?_
        refine g_geti (q := 45) hx d_Mo_unpack_42 rfl fl_Mo_46 hq.g0 (zi_s _ _ _ _) ?_
        refine g_if_le (q := 48) (t := 50) hx d_Mo_unpack_45 rfl rfl (zb_le0 (by omega)) (fun h45 => ?_) (fun h45 => ?_)
        · exact absurd h45 (by omega)
        · refine g_iconst (q := 49) (v := nI 0) hx d_Mo_unpack_48 rfl (by decide) ?_
          exact g_iret hx d_Mo_unpack_49 rfl hQ ⟨Nat.le_refl _, Nat.le_refl _⟩ ⟨_, rfl, rfl, rfl, zi_s _ _ _ _, k1.m.tr kM.c0, (hI.kT k1 kt1).c0⟩
    · exact (absurd trivial h22)
  · exact (absurd trivial h7)
def bU4 : Nat → Bool := fun i => i == 0 || i == 4
set_option maxHeartbeats 4000000 in
set_option maxRecDepth 100000 in
theorem c_Mo_unpack0 (l : Launch) (E : zE) (Γ : zG) (n : Nat) (M : zM) (m : Nat) (len c g k size : Nat) (ref arch : Nat → Nat) (fs hs : Nat → mRd) (ur : mRd) (hq : qX Γ M.2.2 m) (hI : qI M m len c g k size ref arch fs hs ur) (u : Nat) (rs : List mRd) (hu : mBeg arch size u < size) (ht : mTake ref len arch size (mBeg arch size u) = some rs) : zCt l E Y_Mo_unpack 6 (0, 0) [.ref m, .int (nI u)] Γ n M (zPi Γ n (fun v M' => v = nI rs.length ∧ zi M' m 0 = nI 0 ∧ kM m M M' ∧ qI M' m len c g rs.length size ref arch fs (mAt rs) ur)) := by
  refine zCt.of [(0, .ref m), (1, .int (nI u))] (by decide) (Nat.le_of_ble_eq_true rfl) rfl (fun f hfl hx hQ => ?_)
  obtain ⟨P, hP⟩ : ∃ P, M.2.2 = P := ⟨_, rfl⟩
  rw [hP] at hq
  have hm0 := hq.m0
  have hs20 := hI.2.2.2.2.2.2.2.2.2.1
  have hc24 := hI.2.1.2
  have hk3 := hI.2.2.1.2
  have hle := (mTake_len ht).2
  have hle1 := (mTake_len ht).1
  refine g_aload_n (q := 1) hx d_Mo_unpack_0 rfl rfl ?_
  refine g_iload_n (q := 2) hx d_Mo_unpack_1 rfl rfl ?_
  refine g_ci (q := 5) (zrunV hx d_Mo_unpack_2 lk_Mo_142 rfl rfl hq.g0 rfl rfl (Nat.le_of_ble_eq_true rfl) (by decide) (by omega) (by omega) (c_Mo_beginOf _ E Γ n _ m len c g k size ref arch fs hs ur (by rw [hP]; exact hq) hI (nI u))) rfl (fun r2 M1 p2 => ?_)
  obtain ⟨rfl, p2⟩ := p2
  obtain rfl : r2 = nI (mBeg arch size u) := by
    have h5 := mBeg_ge arch size u
    rcases p2 with ⟨i, w1, w2, w3⟩ | q
    · have h6 := mBeg_ge arch size i
      obtain rfl := (nI_eq (by omega) (by omega)).mp w1
      exact w3
    · exact absurd ⟨u, by omega, rfl, hu⟩ q.2
  clear p2
  generalize hbe : mBeg arch size u = b at *
  refine g_istore_n (q := 6) (lc' := [(2, _), (0, _), (1, _)]) hx d_Mo_unpack_5 rfl (by decide) rfl ?_
  refine g_iload_n (q := 7) hx d_Mo_unpack_6 rfl rfl ?_
  refine g_if_ge (q := 10) (t := 14) hx d_Mo_unpack_7 rfl rfl (zb_ge0 (by omega)) (fun h7 => ?_) (fun h7 => ?_)
  · refine g_aload_n (q := 15) hx d_Mo_unpack_14 rfl rfl ?_
    refine g_iload_n (q := 16) hx d_Mo_unpack_15 rfl rfl ?_
    refine g_ci (q := 19) (zrunV hx d_Mo_unpack_16 lk_Mo_172 rfl rfl hq.g0 rfl rfl (Nat.le_of_ble_eq_true rfl) (by decide) (by omega) (by omega) (c_Mo_take _ E Γ n _ m len size b ref arch (by rw [hP]; exact hq) hI.1 hI.2.2.2.2.2.2.2 (by omega))) rfl (fun r16 M2 p16 => ?_)
    obtain ⟨k1, kt1, p16⟩ := p16
    replace hP : M2.2.2 = P := k1.r.trans hP
    obtain ⟨rfl, hp9⟩ : r16 = nI rs.length ∧ ∀ i, i < rs.length → qS M2 m (27 + i) (mAt rs i) ∧ mOk ref len (mAt rs i) ∧ 0 < mBc (mAt rs i).2 := by
      rcases p16 with ⟨rs', e9, h8, h9⟩ | q
      · obtain rfl : rs' = rs := Option.some.inj (e9.symm.trans ht)
        exact ⟨h8, h9⟩
      · rw [q.2] at ht; exact (nomatch ht)
    clear p16
    have hok9 : ∀ i, i < rs.length → mOk ref len (mAt rs i) := fun i hi => (hp9 i hi).2.1
    refine g_istore_n (q := 20) (lc' := [(3, _), (2, _), (0, _), (1, _)]) hx d_Mo_unpack_19 rfl (by decide) rfl ?_
    refine g_aload_n (q := 21) hx d_Mo_unpack_20 rfl rfl ?_
    refine g_iload_n (q := 22) hx d_Mo_unpack_21 rfl rfl ?_
    refine g_if_ge (q := 25) (t := 29) hx d_Mo_unpack_22 rfl rfl (zb_ge0 (by omega)) (fun h22 => ?_) (fun h22 => ?_)
    · refine g_iload_n (q := 30) hx d_Mo_unpack_29 rfl rfl ?_
      refine g_if_ne (q := 33) (t := 37) hx d_Mo_unpack_30 rfl rfl (zb_ne0 (by omega)) (fun h30 => ?_) (fun h30 => ?_)
      · refine g_iconst (q := 38) (v := nI 0) hx d_Mo_unpack_37 rfl (by decide) ?_
        refine g_puti (q := 41) hx d_Mo_unpack_38 rfl fl_Mo_46 nf_7_0 hq.g0 ?_
        refine g_aload_n (q := 42) hx d_Mo_unpack_41 rfl rfl ?_
        refine g_geti (q := 45) hx d_Mo_unpack_42 rfl fl_Mo_46 hq.g0 (zi_s _ _ _ _) ?_
        refine g_if_le (q := 48) (t := 50) hx d_Mo_unpack_45 rfl rfl (zb_le0 (by omega)) (fun h45 => ?_) (fun h45 => ?_)
        · refine g_aload_n (q := 51) hx d_Mo_unpack_50 rfl rfl ?_
          refine g_iload_n (q := 52) hx d_Mo_unpack_51 rfl rfl ?_
          refine g_puti (q := 55) hx d_Mo_unpack_52 rfl fl_Mo_60 nf_7_4 hq.g0 ?_
          refine g_iconst (q := 56) (v := nI 0) hx d_Mo_unpack_55 rfl (by decide) ?_
          refine g_istore (q := 58) (lc' := [(4, _), (3, _), (2, _), (0, _), (1, _)]) hx d_Mo_unpack_56 rfl (by decide) rfl ?_
          have loop : ∀ (i : Nat) (M1 : zM), i ≤ rs.length → kF bSA bU4 bN m M2 M1 → zi M1 m 0 = nI 0 → zi M1 m 4 = nI rs.length → (∀ r rd, (r < 24 ∨ r = 30) → rd.2.length ≤ 12 → qS M2 m r rd → qS M1 m r rd) → (∀ j, j < rs.length → qS M1 m (27 + j) (mAt rs j)) → (∀ j, j < i → qS M1 m (24 + j) (mAt rs j)) → zGo f E Γ n (0, 0) M1 58 [(4, .int (nI i)), (3, .int (nI rs.length)), (2, .int (nI b)), (0, .ref m), (1, .int (nI u))] [] := by
            refine z_lp (fun i => rs.length - i) _ ?_
            intro i M1 ih hi t1 t0 t2 t3 t4 t5
            replace hP : M1.2.2 = P := t1.r.trans hP
            refine g_iload (q := 60) hx d_Mo_unpack_58 rfl rfl ?_
            refine g_iload_n (q := 61) hx d_Mo_unpack_60 rfl rfl ?_
            refine g_icmp_ge (q := 64) (t := 84) hx d_Mo_unpack_61 rfl rfl (nI_leI (by omega) (by omega)) (fun h61 => ?_) (fun h61 => ?_)
            · refine g_iload_n (q := 85) hx d_Mo_unpack_84 rfl rfl ?_
              exact g_iret hx d_Mo_unpack_85 rfl hQ ⟨Nat.le_refl _, Nat.le_refl _⟩ ⟨_, rfl, rfl, rfl, rfl, t0, (k1.m.tr t1.m), by
                    have hI2 := hI.kT k1 kt1
                    obtain ⟨q1, q2, q3, q4, q5, q6, q7, q8⟩ := hI2
                    exact ⟨q1.kp t1 rfl rfl, ⟨(t1.i 3 rfl).trans q2.1, q2.2⟩, ⟨t2, hle⟩, ⟨(t1.i 5 rfl).trans q4.1, q4.2⟩, fun i hi => ⟨t3 i _ (by omega) (q5 i hi).2.2.2.2 (q5 i hi).1, (q5 i hi).2⟩, fun j hj => ⟨t5 j (by omega), hok9 j hj⟩, fun hg => ⟨t3 30 _ (by omega) (q7 hg).2.2.2.2 (q7 hg).1, (q7 hg).2⟩, q8.kp t1 rfl rfl⟩⟩
            · refine g_aload_n (q := 65) hx d_Mo_unpack_64 rfl rfl ?_
              refine g_bipush (q := 67) (v := nI 27) hx d_Mo_unpack_65 rfl (by decide) ?_
              refine g_iload (q := 69) hx d_Mo_unpack_67 rfl rfl ?_
              refine g_iadd (q := 70) hx d_Mo_unpack_69 rfl (nI_add _ _) ?_
              refine g_bipush (q := 72) (v := nI 24) hx d_Mo_unpack_70 rfl (by decide) ?_
              refine g_iload (q := 74) hx d_Mo_unpack_72 rfl rfl ?_
              refine g_iadd (q := 75) hx d_Mo_unpack_74 rfl (nI_add _ _) ?_
              refine g_cv (q := 78) (zrunV hx d_Mo_unpack_75 lk_Mo_75 rfl rfl hq.g0 rfl rfl (Nat.le_of_ble_eq_true rfl) (by decide) (by omega) (by omega) (c_Mo_copy _ E Γ n _ m (27 + i) (24 + i) (mAt rs i) (by rw [hP]; exact hq) (t4 i (by omega)) (by omega) (by omega) (by omega) (hok9 i (by omega)).2.2.2)) rfl (fun M3 p75 => ?_)
              obtain ⟨z3, x3, s3⟩ := p75
              refine g_iinc (q := 81) (lc' := [(4, _), (3, _), (2, _), (0, _), (1, _)]) hx d_Mo_unpack_78 rfl rfl (z_inc _) (by decide) rfl ?_
              refine g_goto (q := 58) hx d_Mo_unpack_81 rfl ?_
              refine ih (i + 1) M3 (by omega) (by omega) (t1.tr (z3.mono (zSb_rf _) (bN_ _) (bN_ _))) ((z3.i 0 rfl).trans t0) ((z3.i 4 rfl).trans t2) (fun r rd hr h9 h8 => qS.ot x3 (by omega) h9 (t3 r rd hr h9 h8)) (fun j hj => qS.ot x3 (by omega) (hok9 j hj).2.2.2 (t4 j hj)) (fun j hj => ?_)
              by_cases e : j = i
              · subst e; exact s3
              · exact qS.ot x3 (by omega) (hok9 j (by omega)).2.2.2 (t5 j (by omega))
          have t9 : kF bN bU4 bN m M2 (zsi (zsi M2 m 0 (nI 0)) m 4 (nI rs.length)) := (kF.rf.si rfl).si rfl
          exact loop 0 _ (Nat.zero_le _) (t9.mono (bN_ _) (zSb_rf _) (zSb_rf _)) ((zi_k (by decide)).trans (zi_s _ _ _ _)) (zi_s _ _ _ _) (fun r rd hr h9 h8 => h8.kp t9 rfl rfl rfl rfl rfl rfl) (fun j hj => (hp9 j hj).1.kp t9 rfl rfl rfl rfl rfl rfl) (fun j hj => absurd hj (Nat.not_lt_zero _))
        · exact absurd h45 (by omega)
      · exact absurd (by omega) h30
    · exact (absurd trivial h22)
  · exact (absurd trivial h7)
/-- how deep: none where a block on the way is refused -/
def mDp (ref : Nat → Nat) (len : Nat) (arch : Nat → Nat) (size p : Nat) : Nat → Nat → Nat → Option Nat
  | 0, _, n => some n
  | f + 1, i, n => if size ≤ mBeg arch size i then some n else if mBeg arch size i + 1 < size ∧ p < arch (mBeg arch size i + 1) then some n else
    match mTake ref len arch size (mBeg arch size i) with
    | none => none
    | some rs => mDp ref len arch size p f (i + 1) (n + mOv (mAt rs) p rs.length)
set_option maxHeartbeats 4000000 in
set_option maxRecDepth 100000 in
theorem c_Mo_depth1 (l : Launch) (E : zE) (Γ : zG) (n : Nat) (M : zM) (m : Nat) (len c g k size : Nat) (ref arch : Nat → Nat) (fs hs : Nat → mRd) (ur : mRd) (hq : qX Γ M.2.2 m) (hI : qI M m len c g k size ref arch fs hs ur) (y : Int32) (hy : ¬ ∃ u : Nat, u < len ∧ y = nI u) : zCt l E Y_Mo_depth 6 (0, 0) [.ref m, .int y] Γ n M (zPi Γ n (fun v M' => M' = zsi M m 0 (nI 1))) := by
  refine zCt.of [(0, .ref m), (1, .int y)] (by decide) (Nat.le_of_ble_eq_true rfl) rfl (fun f hfl hx hQ => ?_)
  obtain ⟨P, hP⟩ : ∃ P, M.2.2 = P := ⟨_, rfl⟩
  rw [hP] at hq
  have hm0 := hq.m0
  have hl160 := hI.1.2.2.1
  refine g_aload_n (q := 1) hx d_Mo_depth_0 rfl rfl ?_
  refine g_iload_n (q := 2) hx d_Mo_depth_1 rfl rfl ?_
  refine g_if_lt (q := 5) (t := 13) hx d_Mo_depth_2 rfl rfl Iff.rfl (fun h2 => ?_) (fun h2 => ?_)
  · refine g_iconst (q := 14) (v := nI 1) hx d_Mo_depth_13 rfl (by decide) ?_
    refine g_goto (q := 18) hx d_Mo_depth_14 rfl ?_
    refine g_puti (q := 21) hx d_Mo_depth_18 rfl fl_Mo_46 nf_7_0 hq.g0 ?_
    refine g_iconst (q := 22) (v := nI 0) hx d_Mo_depth_21 rfl (by decide) ?_
    refine g_istore_n (q := 23) (lc' := [(2, _), (0, _), (1, _)]) hx d_Mo_depth_22 rfl (by decide) rfl ?_
    refine g_iconst (q := 24) (v := nI 0) hx d_Mo_depth_23 rfl (by decide) ?_
    refine g_istore_n (q := 25) (lc' := [(3, _), (2, _), (0, _), (1, _)]) hx d_Mo_depth_24 rfl (by decide) rfl ?_
    refine g_aload_n (q := 26) hx d_Mo_depth_25 rfl rfl ?_
    refine g_geti (q := 29) hx d_Mo_depth_26 rfl fl_Mo_46 hq.g0 (zi_s _ _ _ _) ?_
    refine g_if_ne (q := 32) (t := 156) hx d_Mo_depth_29 rfl rfl (zb_ne0 (by omega)) (fun h29 => ?_) (fun h29 => ?_)
    · refine g_iconst (q := 157) (v := nI 0) hx d_Mo_depth_156 rfl (by decide) ?_
      exact g_iret hx d_Mo_depth_157 rfl hQ ⟨Nat.le_refl _, Nat.le_refl _⟩ ⟨_, rfl, rfl, rfl, rfl⟩
    · exact absurd h29 (by omega)
  · refine g_iload_n (q := 6) hx d_Mo_depth_5 rfl rfl ?_
    refine g_aload_n (q := 7) hx d_Mo_depth_6 rfl rfl ?_
    refine g_geti (q := 10) hx d_Mo_depth_7 rfl fl_Mo_57 hq.g0 hI.1.1 ?_
    refine g_icmp_lt (q := 13) (t := 17) hx d_Mo_depth_10 rfl rfl Iff.rfl (fun h10 => ?_) (fun h10 => ?_)
    · exact absurd (z_lt0 h2 h10 (by omega)) hy
    · refine g_iconst (q := 14) (v := nI 1) hx d_Mo_depth_13 rfl (by decide) ?_
      refine g_goto (q := 18) hx d_Mo_depth_14 rfl ?_
      refine g_puti (q := 21) hx d_Mo_depth_18 rfl fl_Mo_46 nf_7_0 hq.g0 ?_
      refine g_iconst (q := 22) (v := nI 0) hx d_Mo_depth_21 rfl (by decide) ?_
      refine g_istore_n (q := 23) (lc' := [(2, _), (0, _), (1, _)]) hx d_Mo_depth_22 rfl (by decide) rfl ?_
      refine g_iconst (q := 24) (v := nI 0) hx d_Mo_depth_23 rfl (by decide) ?_
      refine g_istore_n (q := 25) (lc' := [(3, _), (2, _), (0, _), (1, _)]) hx d_Mo_depth_24 rfl (by decide) rfl ?_
      refine g_aload_n (q := 26) hx d_Mo_depth_25 rfl rfl ?_
      refine g_geti (q := 29) hx d_Mo_depth_26 rfl fl_Mo_46 hq.g0 (zi_s _ _ _ _) ?_
      refine g_if_ne (q := 32) (t := 156) hx d_Mo_depth_29 rfl rfl (zb_ne0 (by omega)) (fun h29 => ?_) (fun h29 => ?_)
      · refine g_iconst (q := 157) (v := nI 0) hx d_Mo_depth_156 rfl (by decide) ?_
        exact g_iret hx d_Mo_depth_157 rfl hQ ⟨Nat.le_refl _, Nat.le_refl _⟩ ⟨_, rfl, rfl, rfl, rfl⟩
      · exact absurd h29 (by omega)
set_option maxHeartbeats 4000000 in
set_option maxRecDepth 100000 in
theorem c_Mo_depth2 (l : Launch) (E : zE) (Γ : zG) (n : Nat) (M : zM) (m : Nat) (len c g k size : Nat) (ref arch : Nat → Nat) (fs hs : Nat → mRd) (ur : mRd) (hq : qX Γ M.2.2 m) (hI : qI M m len c g k size ref arch fs hs ur) (p : Nat) (hp : p < len) (ht : mDp ref len arch size p 500 0 0 = none) : zCt l E Y_Mo_depth 6 (0, 0) [.ref m, .int (nI p)] Γ n M (zPi Γ n (fun v M' => zi M' m 0 = nI 2 ∧ kM m M M' ∧ qI M' m len c g k size ref arch fs hs ur)) := by
  refine zCt.of [(0, .ref m), (1, .int (nI p))] (by decide) (Nat.le_of_ble_eq_true rfl) rfl (fun f hfl hx hQ => ?_)
  obtain ⟨P, hP⟩ : ∃ P, M.2.2 = P := ⟨_, rfl⟩
  rw [hP] at hq
  have hm0 := hq.m0
  have hl160 := hI.1.2.2.1
  have hs20 := hI.2.2.2.2.2.2.2.2.2.1
  have loop : ∀ (i : Nat) (M1 : zM), ∀ cnt : Nat, i ≤ 420 → cnt ≤ 3 * i → kM m M M1 → zi M1 m 0 = nI 0 → qI M1 m len c g k size ref arch fs hs ur → mDp ref len arch size p (500 - i) i cnt = none → zGo f E Γ n (0, 0) M1 25 [(3, .int (nI i)), (2, .int (nI cnt)), (0, .ref m), (1, .int (nI p))] [] := by
    refine z_lp (fun i => 420 - i) _ ?_
    intro i M1 ih cnt hi hcn t1 t0 hI1 hT
    replace hP : M1.2.2 = P := t1.1.trans hP
    refine g_aload_n (q := 26) hx d_Mo_depth_25 rfl rfl ?_
    refine g_geti (q := 29) hx d_Mo_depth_26 rfl fl_Mo_46 hq.g0 t0 ?_
    refine g_if_ne (q := 32) (t := 156) hx d_Mo_depth_29 rfl rfl (zb_ne0 (by omega)) (fun h29 => ?_) (fun h29 => ?_)
    · exact absurd h29 (by omega)
    · refine g_aload_n (q := 33) hx d_Mo_depth_32 rfl rfl ?_
      refine g_iload_n (q := 34) hx d_Mo_depth_33 rfl rfl ?_
      refine g_ci (q := 37) (zrunV hx d_Mo_depth_34 lk_Mo_142 rfl rfl hq.g0 rfl rfl (Nat.le_of_ble_eq_true rfl) (by decide) (by omega) (by omega) (c_Mo_beginOf _ E Γ n _ m len c g k size ref arch fs hs ur (by rw [hP]; exact hq) hI1 (nI i))) rfl (fun r34 M2 p34 => ?_)
      obtain ⟨rfl, p34⟩ := p34
      have hi5 := mBeg_ge arch size i
      rcases p34 with ⟨i9, w1, w2, rfl⟩ | ⟨rfl, hz⟩
      · have hi6 := mBeg_ge arch size i9
        obtain rfl : i = i9 := (nI_eq (by omega) (by omega)).mp w1
        rw [show 500 - i = (500 - (i + 1)) + 1 by omega] at hT
        simp only [mDp] at hT
        rw [if_neg (by omega)] at hT
        refine g_istore (q := 39) (lc' := [(4, _), (3, _), (2, _), (0, _), (1, _)]) hx d_Mo_depth_37 rfl (by decide) rfl ?_
        refine g_iload (q := 41) hx d_Mo_depth_39 rfl rfl ?_
        refine g_if_lt (q := 44) (t := 68) hx d_Mo_depth_41 rfl rfl (zb_lt0 (by omega)) (fun h41 => ?_) (fun h41 => ?_)
        · exact h41.elim
        · refine g_iload (q := 46) hx d_Mo_depth_44 rfl rfl ?_
          refine g_iconst (q := 47) (v := nI 1) hx d_Mo_depth_46 rfl (by decide) ?_
          refine g_iadd (q := 48) hx d_Mo_depth_47 rfl (nI_add _ _) ?_
          refine g_aload_n (q := 49) hx d_Mo_depth_48 rfl rfl ?_
          refine g_geti (q := 52) hx d_Mo_depth_49 rfl fl_Mo_136 hq.g0 hI1.2.2.2.2.2.2.2.1 ?_
          refine g_icmp_ge (q := 55) (t := 70) hx d_Mo_depth_52 rfl rfl (nI_leI (by omega) (by omega)) (fun h52 => ?_) (fun h52 => ?_)
          · rw [if_neg (by omega)] at hT
            refine g_aload_n (q := 71) hx d_Mo_depth_70 rfl rfl ?_
            refine g_iload (q := 73) hx d_Mo_depth_71 rfl rfl ?_
            refine g_ci (q := 76) (zrunV hx d_Mo_depth_73 lk_Mo_172 rfl rfl hq.g0 rfl rfl (Nat.le_of_ble_eq_true rfl) (by decide) (by omega) (by omega) (c_Mo_take _ E Γ n _ m len size (mBeg arch size i) ref arch (by rw [hP]; exact hq) hI1.1 hI1.2.2.2.2.2.2.2 (by omega))) rfl (fun r73 M3 p73 => ?_)
            obtain ⟨k1, kt1, p73⟩ := p73
            replace hP : M3.2.2 = P := k1.r.trans hP
            have hI3 := hI1.kT k1 kt1
            have t13 := t1.tr k1.m
            rcases p73 with ⟨rs, e9, rfl, hp9⟩ | ⟨rfl, e9⟩
            · rw [e9] at hT
              dsimp only at hT
              have hle := mTake_len e9
              refine g_istore (q := 78) (lc' := [(5, _), (4, _), (3, _), (2, _), (0, _), (1, _)]) hx d_Mo_depth_76 rfl (by decide) rfl ?_
              refine g_aload_n (q := 79) hx d_Mo_depth_78 rfl rfl ?_
              refine g_iload (q := 81) hx d_Mo_depth_79 rfl rfl ?_
              refine g_if_ne (q := 84) (t := 88) hx d_Mo_depth_81 rfl rfl (zb_ne0 (by omega)) (fun h81 => ?_) (fun h81 => ?_)
              · refine g_iconst (q := 89) (v := nI 0) hx d_Mo_depth_88 rfl (by decide) ?_
                refine g_puti (q := 92) hx d_Mo_depth_89 rfl fl_Mo_46 nf_7_0 hq.g0 ?_
                refine g_bipush (q := 94) (v := nI 27) hx d_Mo_depth_92 rfl (by decide) ?_
                refine g_istore (q := 96) (lc' := [(6, _), (5, _), (4, _), (3, _), (2, _), (0, _), (1, _)]) hx d_Mo_depth_94 rfl (by decide) rfl ?_
                have loop2 : ∀ j : Nat, j ≤ rs.length → zGo f E Γ n (0, 0) (zsi M3 m 0 (nI 0)) 96 [(6, .int (nI (27 + j))), (5, .int (nI rs.length)), (4, .int (nI (mBeg arch size i))), (3, .int (nI i)), (2, .int (nI (cnt + mOv (mAt rs) p j))), (0, .ref m), (1, .int (nI p))] [] := by
                  refine z_loop (fun j => rs.length - j) _ ?_
                  intro j ih2 hj
                  refine g_iload (q := 98) hx d_Mo_depth_96 rfl rfl ?_
                  refine g_bipush (q := 100) (v := nI 27) hx d_Mo_depth_98 rfl (by decide) ?_
                  refine g_iload (q := 102) hx d_Mo_depth_100 rfl rfl ?_
                  refine g_iadd (q := 103) hx d_Mo_depth_102 rfl (nI_add _ _) ?_
                  refine g_icmp_ge (q := 106) (t := 150) hx d_Mo_depth_103 rfl rfl (nI_leI (by omega) (by omega)) (fun h103 => ?_) (fun h103 => ?_)
                  · obtain rfl : j = rs.length := (by omega)
                    refine g_iinc (q := 153) (lc' := [(3, _), (6, _), (5, _), (4, _), (2, _), (0, _), (1, _)]) hx d_Mo_depth_150 rfl rfl (z_inc _) (by decide) rfl ?_
                    refine g_goto (q := 25) hx d_Mo_depth_153 rfl ?_
                    refine z_perm (lc' := [(3, .int (nI (i + 1))), (2, .int (nI (cnt + mOv (mAt rs) p rs.length))), (0, .ref m), (1, .int (nI p))]) (fun q hq => by simp only [List.mem_cons, List.not_mem_nil, or_false] at hq ⊢; rcases hq with h | h | h | h <;> simp [h]) ?_
                    have hov9 := mOv_le (mAt rs) p rs.length
                    exact ih (i + 1) _ (by omega) (cnt + mOv (mAt rs) p rs.length) (by omega) (by omega) (t13.tr kM.c0) (zi_s _ _ _ _) hI3.c0 hT
                  · have hm9 := mPs_fit (hp9 j (by omega)).2.1
                    have hov := mOv_le (mAt rs) p j
                    refine g_aload_n (q := 107) hx d_Mo_depth_106 rfl rfl ?_
                    refine g_geta (q := 110) hx d_Mo_depth_107 rfl fl_Mo_13 hq.g0 (hq.p2 hP) (by first | exact Nat.succ_ne_zero _ | omega) ?_
                    refine g_iload (q := 112) hx d_Mo_depth_110 rfl rfl ?_
                    refine g_iald (q := 113) hx d_Mo_depth_112 rfl hq.g2 rfl (by omega) (by decide) ((hp9 j (by omega)).1.kp (A := bN) (I := bI0) (L := bN) (kF.rf.si rfl) rfl rfl rfl rfl rfl rfl).1 ?_
                    refine g_iload_n (q := 114) hx d_Mo_depth_113 rfl rfl ?_
                    refine g_icmp_gt (q := 117) (t := 142) hx d_Mo_depth_114 rfl rfl (nI_ltI (by omega) (by omega)) (fun h114 => ?_) (fun h114 => ?_)
                    · refine g_iload_n (q := 143) hx d_Mo_depth_142 rfl rfl ?_
                      refine g_istore_n (q := 144) (lc' := [(2, _), (6, _), (5, _), (4, _), (3, _), (0, _), (1, _)]) hx d_Mo_depth_143 rfl (by decide) rfl ?_
                      refine g_iinc (q := 147) (lc' := [(6, _), (2, _), (5, _), (4, _), (3, _), (0, _), (1, _)]) hx d_Mo_depth_144 rfl rfl (z_inc _) (by decide) rfl ?_
                      refine g_goto (q := 96) hx d_Mo_depth_147 rfl ?_
                      have e9 : cnt + mOv (mAt rs) p j = cnt + mOv (mAt rs) p (j + 1) := by
                        simp only [mOv]
                        split <;> omega
                      rw [e9]
                      refine z_perm (lc' := [(6, .int (nI (27 + j + 1))), (5, .int (nI rs.length)), (4, .int (nI (mBeg arch size i))), (3, .int (nI i)), (2, .int (nI (cnt + mOv (mAt rs) p (j + 1)))), (0, .ref m), (1, .int (nI p))]) (fun q hq => by simp only [List.mem_cons, List.not_mem_nil, or_false] at hq ⊢; rcases hq with h | h | h | h | h | h | h <;> simp [h]) ?_
                      exact ih2 (j + 1) (by omega) (by omega)
                    · refine g_iload_n (q := 118) hx d_Mo_depth_117 rfl rfl ?_
                      refine g_aload_n (q := 119) hx d_Mo_depth_118 rfl rfl ?_
                      refine g_geta (q := 122) hx d_Mo_depth_119 rfl fl_Mo_13 hq.g0 (hq.p2 hP) (by first | exact Nat.succ_ne_zero _ | omega) ?_
                      refine g_iload (q := 124) hx d_Mo_depth_122 rfl rfl ?_
                      refine g_iald (q := 125) hx d_Mo_depth_124 rfl hq.g2 rfl (by omega) (by decide) ((hp9 j (by omega)).1.kp (A := bN) (I := bI0) (L := bN) (kF.rf.si rfl) rfl rfl rfl rfl rfl rfl).1 ?_
                      refine g_aload_n (q := 126) hx d_Mo_depth_125 rfl rfl ?_
                      refine g_geta (q := 129) hx d_Mo_depth_126 rfl fl_Mo_22 hq.g0 (hq.p5 hP) (by first | exact Nat.succ_ne_zero _ | omega) ?_
                      refine g_iload (q := 131) hx d_Mo_depth_129 rfl rfl ?_
                      refine g_iald (q := 132) hx d_Mo_depth_131 rfl hq.g5 rfl (by omega) (by decide) ((hp9 j (by omega)).1.kp (A := bN) (I := bI0) (L := bN) (kF.rf.si rfl) rfl rfl rfl rfl rfl rfl).2.2.2.1 ?_
                      refine g_iadd (q := 133) hx d_Mo_depth_132 rfl (nI_add _ _) ?_
                      refine g_icmp_ge (q := 136) (t := 142) hx d_Mo_depth_133 rfl rfl (nI_leI (by omega) (by omega)) (fun h133 => ?_) (fun h133 => ?_)
                      · refine g_iload_n (q := 143) hx d_Mo_depth_142 rfl rfl ?_
                        refine g_istore_n (q := 144) (lc' := [(2, _), (6, _), (5, _), (4, _), (3, _), (0, _), (1, _)]) hx d_Mo_depth_143 rfl (by decide) rfl ?_
                        refine g_iinc (q := 147) (lc' := [(6, _), (2, _), (5, _), (4, _), (3, _), (0, _), (1, _)]) hx d_Mo_depth_144 rfl rfl (z_inc _) (by decide) rfl ?_
                        refine g_goto (q := 96) hx d_Mo_depth_147 rfl ?_
                        have e9 : cnt + mOv (mAt rs) p j = cnt + mOv (mAt rs) p (j + 1) := by
                          simp only [mOv]
                          split <;> omega
                        rw [e9]
                        refine z_perm (lc' := [(6, .int (nI (27 + j + 1))), (5, .int (nI rs.length)), (4, .int (nI (mBeg arch size i))), (3, .int (nI i)), (2, .int (nI (cnt + mOv (mAt rs) p (j + 1)))), (0, .ref m), (1, .int (nI p))]) (fun q hq => by simp only [List.mem_cons, List.not_mem_nil, or_false] at hq ⊢; rcases hq with h | h | h | h | h | h | h <;> simp [h]) ?_
                        exact ih2 (j + 1) (by omega) (by omega)
                      · refine g_iload_n (q := 137) hx d_Mo_depth_136 rfl rfl ?_
                        refine g_iconst (q := 138) (v := nI 1) hx d_Mo_depth_137 rfl (by decide) ?_
                        refine g_iadd (q := 139) hx d_Mo_depth_138 rfl (nI_add _ _) ?_
                        refine g_goto (q := 143) hx d_Mo_depth_139 rfl ?_
                        refine g_istore_n (q := 144) (lc' := [(2, _), (6, _), (5, _), (4, _), (3, _), (0, _), (1, _)]) hx d_Mo_depth_143 rfl (by decide) rfl ?_
                        refine g_iinc (q := 147) (lc' := [(6, _), (2, _), (5, _), (4, _), (3, _), (0, _), (1, _)]) hx d_Mo_depth_144 rfl rfl (z_inc _) (by decide) rfl ?_
                        refine g_goto (q := 96) hx d_Mo_depth_147 rfl ?_
                        have e9 : cnt + mOv (mAt rs) p j + 1 = cnt + mOv (mAt rs) p (j + 1) := by
                          simp only [mOv]
                          split <;> omega
                        rw [e9]
                        refine z_perm (lc' := [(6, .int (nI (27 + j + 1))), (5, .int (nI rs.length)), (4, .int (nI (mBeg arch size i))), (3, .int (nI i)), (2, .int (nI (cnt + mOv (mAt rs) p (j + 1)))), (0, .ref m), (1, .int (nI p))]) (fun q hq => by simp only [List.mem_cons, List.not_mem_nil, or_false] at hq ⊢; rcases hq with h | h | h | h | h | h | h <;> simp [h]) ?_
                        exact ih2 (j + 1) (by omega) (by omega)
                exact loop2 0 (Nat.zero_le _)
              · exact absurd (by omega) h81
            · rw [e9] at hT
              dsimp only at hT
              refine g_istore (q := 78) (lc' := [(5, _), (4, _), (3, _), (2, _), (0, _), (1, _)]) hx d_Mo_depth_76 rfl (by decide) rfl ?_
              refine g_aload_n (q := 79) hx d_Mo_depth_78 rfl rfl ?_
              refine g_iload (q := 81) hx d_Mo_depth_79 rfl rfl ?_
              refine g_if_ne (q := 84) (t := 88) hx d_Mo_depth_81 rfl rfl (zb_ne0 (by omega)) (fun h81 => ?_) (fun h81 => ?_)
              · exact absurd h81 (by omega)
              · refine g_iconst (q := 85) (v := nI 2) hx d_Mo_depth_84 rfl (by decide) ?_
                refine g_goto (q := 89) hx d_Mo_depth_85 rfl ?_
                refine g_puti (q := 92) hx d_Mo_depth_89 rfl fl_Mo_46 nf_7_0 hq.g0 ?_
                refine g_bipush (q := 94) (v := nI 27) hx d_Mo_depth_92 rfl (by decide) ?_
                refine g_istore (q := 96) (lc' := [(6, _), (5, _), (4, _), (3, _), (2, _), (0, _), (1, _)]) hx d_Mo_depth_94 rfl (by decide) rfl ?_
                refine g_iload (q := 98) hx d_Mo_depth_96 rfl rfl ?_
                refine g_bipush (q := 100) (v := nI 27) hx d_Mo_depth_98 rfl (by decide) ?_
                refine g_iload (q := 102) hx d_Mo_depth_100 rfl rfl ?_
                refine g_iadd (q := 103) hx d_Mo_depth_102 rfl (nI_add _ _) ?_
                refine g_icmp_ge (q := 106) (t := 150) hx d_Mo_depth_103 rfl rfl (nI_leI (by omega) (by omega)) (fun h103 => ?_) (fun h103 => ?_)
                · refine g_iinc (q := 153) (lc' := [(3, _), (6, _), (5, _), (4, _), (2, _), (0, _), (1, _)]) hx d_Mo_depth_150 rfl rfl (z_inc _) (by decide) rfl ?_
                  refine g_goto (q := 25) hx d_Mo_depth_153 rfl ?_
                  refine g_aload_n (q := 26) hx d_Mo_depth_25 rfl rfl ?_
                  refine g_geti (q := 29) hx d_Mo_depth_26 rfl fl_Mo_46 hq.g0 (zi_s _ _ _ _) ?_
                  refine g_if_ne (q := 32) (t := 156) hx d_Mo_depth_29 rfl rfl (zb_ne0 (by omega)) (fun h29 => ?_) (fun h29 => ?_)
                  · refine g_iconst (q := 157) (v := nI 0) hx d_Mo_depth_156 rfl (by decide) ?_
                    exact g_iret hx d_Mo_depth_157 rfl hQ ⟨Nat.le_refl _, Nat.le_refl _⟩ ⟨_, rfl, rfl, rfl, zi_s _ _ _ _, t13.tr kM.c0, hI3.c0⟩
                  · exact absurd h29 (by omega)
                · exact absurd (by omega) h103
          · have ha9 := hI1.2.2.2.2.2.2.2.2.2.2 (mBeg arch size i + 1)
            refine g_aload_n (q := 56) hx d_Mo_depth_55 rfl rfl ?_
            refine g_geta (q := 59) hx d_Mo_depth_56 rfl fl_Mo_31 hq.g0 (hq.p8 hP) (by first | exact Nat.succ_ne_zero _ | omega) ?_
            refine g_iload (q := 61) hx d_Mo_depth_59 rfl rfl ?_
            refine g_iconst (q := 62) (v := nI 1) hx d_Mo_depth_61 rfl (by decide) ?_
            refine g_iadd (q := 63) hx d_Mo_depth_62 rfl (nI_add _ _) ?_
            refine g_iald (q := 64) hx d_Mo_depth_63 rfl hq.g8 rfl (by omega) (by decide) (hI1.2.2.2.2.2.2.2.2.1 (mBeg arch size i + 1) (by omega)) ?_
            refine g_iload_n (q := 65) hx d_Mo_depth_64 rfl rfl ?_
            refine g_icmp_le (q := 68) (t := 70) hx d_Mo_depth_65 rfl rfl (nI_leI (by omega) (by omega)) (fun h65 => ?_) (fun h65 => ?_)
            · rw [if_neg (by omega)] at hT
              refine g_aload_n (q := 71) hx d_Mo_depth_70 rfl rfl ?_
              refine g_iload (q := 73) hx d_Mo_depth_71 rfl rfl ?_
              refine g_ci (q := 76) (zrunV hx d_Mo_depth_73 lk_Mo_172 rfl rfl hq.g0 rfl rfl (Nat.le_of_ble_eq_true rfl) (by decide) (by omega) (by omega) (c_Mo_take _ E Γ n _ m len size (mBeg arch size i) ref arch (by rw [hP]; exact hq) hI1.1 hI1.2.2.2.2.2.2.2 (by omega))) rfl (fun r73 M3 p73 => ?_)
              obtain ⟨k1, kt1, p73⟩ := p73
              replace hP : M3.2.2 = P := k1.r.trans hP
              have hI3 := hI1.kT k1 kt1
              have t13 := t1.tr k1.m
              rcases p73 with ⟨rs, e9, rfl, hp9⟩ | ⟨rfl, e9⟩
              · rw [e9] at hT
                dsimp only at hT
                have hle := mTake_len e9
                refine g_istore (q := 78) (lc' := [(5, _), (4, _), (3, _), (2, _), (0, _), (1, _)]) hx d_Mo_depth_76 rfl (by decide) rfl ?_
                refine g_aload_n (q := 79) hx d_Mo_depth_78 rfl rfl ?_
                refine g_iload (q := 81) hx d_Mo_depth_79 rfl rfl ?_
                refine g_if_ne (q := 84) (t := 88) hx d_Mo_depth_81 rfl rfl (zb_ne0 (by omega)) (fun h81 => ?_) (fun h81 => ?_)
                · refine g_iconst (q := 89) (v := nI 0) hx d_Mo_depth_88 rfl (by decide) ?_
                  refine g_puti (q := 92) hx d_Mo_depth_89 rfl fl_Mo_46 nf_7_0 hq.g0 ?_
                  refine g_bipush (q := 94) (v := nI 27) hx d_Mo_depth_92 rfl (by decide) ?_
                  refine g_istore (q := 96) (lc' := [(6, _), (5, _), (4, _), (3, _), (2, _), (0, _), (1, _)]) hx d_Mo_depth_94 rfl (by decide) rfl ?_
                  have loop2 : ∀ j : Nat, j ≤ rs.length → zGo f E Γ n (0, 0) (zsi M3 m 0 (nI 0)) 96 [(6, .int (nI (27 + j))), (5, .int (nI rs.length)), (4, .int (nI (mBeg arch size i))), (3, .int (nI i)), (2, .int (nI (cnt + mOv (mAt rs) p j))), (0, .ref m), (1, .int (nI p))] [] := by
                    refine z_loop (fun j => rs.length - j) _ ?_
                    intro j ih2 hj
                    refine g_iload (q := 98) hx d_Mo_depth_96 rfl rfl ?_
                    refine g_bipush (q := 100) (v := nI 27) hx d_Mo_depth_98 rfl (by decide) ?_
                    refine g_iload (q := 102) hx d_Mo_depth_100 rfl rfl ?_
                    refine g_iadd (q := 103) hx d_Mo_depth_102 rfl (nI_add _ _) ?_
                    refine g_icmp_ge (q := 106) (t := 150) hx d_Mo_depth_103 rfl rfl (nI_leI (by omega) (by omega)) (fun h103 => ?_) (fun h103 => ?_)
                    · obtain rfl : j = rs.length := (by omega)
                      refine g_iinc (q := 153) (lc' := [(3, _), (6, _), (5, _), (4, _), (2, _), (0, _), (1, _)]) hx d_Mo_depth_150 rfl rfl (z_inc _) (by decide) rfl ?_
                      refine g_goto (q := 25) hx d_Mo_depth_153 rfl ?_
                      refine z_perm (lc' := [(3, .int (nI (i + 1))), (2, .int (nI (cnt + mOv (mAt rs) p rs.length))), (0, .ref m), (1, .int (nI p))]) (fun q hq => by simp only [List.mem_cons, List.not_mem_nil, or_false] at hq ⊢; rcases hq with h | h | h | h <;> simp [h]) ?_
                      have hov9 := mOv_le (mAt rs) p rs.length
                      exact ih (i + 1) _ (by omega) (cnt + mOv (mAt rs) p rs.length) (by omega) (by omega) (t13.tr kM.c0) (zi_s _ _ _ _) hI3.c0 hT
                    · have hm9 := mPs_fit (hp9 j (by omega)).2.1
                      have hov := mOv_le (mAt rs) p j
                      refine g_aload_n (q := 107) hx d_Mo_depth_106 rfl rfl ?_
                      refine g_geta (q := 110) hx d_Mo_depth_107 rfl fl_Mo_13 hq.g0 (hq.p2 hP) (by first | exact Nat.succ_ne_zero _ | omega) ?_
                      refine g_iload (q := 112) hx d_Mo_depth_110 rfl rfl ?_
                      refine g_iald (q := 113) hx d_Mo_depth_112 rfl hq.g2 rfl (by omega) (by decide) ((hp9 j (by omega)).1.kp (A := bN) (I := bI0) (L := bN) (kF.rf.si rfl) rfl rfl rfl rfl rfl rfl).1 ?_
                      refine g_iload_n (q := 114) hx d_Mo_depth_113 rfl rfl ?_
                      refine g_icmp_gt (q := 117) (t := 142) hx d_Mo_depth_114 rfl rfl (nI_ltI (by omega) (by omega)) (fun h114 => ?_) (fun h114 => ?_)
                      · refine g_iload_n (q := 143) hx d_Mo_depth_142 rfl rfl ?_
                        refine g_istore_n (q := 144) (lc' := [(2, _), (6, _), (5, _), (4, _), (3, _), (0, _), (1, _)]) hx d_Mo_depth_143 rfl (by decide) rfl ?_
                        refine g_iinc (q := 147) (lc' := [(6, _), (2, _), (5, _), (4, _), (3, _), (0, _), (1, _)]) hx d_Mo_depth_144 rfl rfl (z_inc _) (by decide) rfl ?_
                        refine g_goto (q := 96) hx d_Mo_depth_147 rfl ?_
                        have e9 : cnt + mOv (mAt rs) p j = cnt + mOv (mAt rs) p (j + 1) := by
                          simp only [mOv]
                          split <;> omega
                        rw [e9]
                        refine z_perm (lc' := [(6, .int (nI (27 + j + 1))), (5, .int (nI rs.length)), (4, .int (nI (mBeg arch size i))), (3, .int (nI i)), (2, .int (nI (cnt + mOv (mAt rs) p (j + 1)))), (0, .ref m), (1, .int (nI p))]) (fun q hq => by simp only [List.mem_cons, List.not_mem_nil, or_false] at hq ⊢; rcases hq with h | h | h | h | h | h | h <;> simp [h]) ?_
                        exact ih2 (j + 1) (by omega) (by omega)
                      · refine g_iload_n (q := 118) hx d_Mo_depth_117 rfl rfl ?_
                        refine g_aload_n (q := 119) hx d_Mo_depth_118 rfl rfl ?_
                        refine g_geta (q := 122) hx d_Mo_depth_119 rfl fl_Mo_13 hq.g0 (hq.p2 hP) (by first | exact Nat.succ_ne_zero _ | omega) ?_
                        refine g_iload (q := 124) hx d_Mo_depth_122 rfl rfl ?_
                        refine g_iald (q := 125) hx d_Mo_depth_124 rfl hq.g2 rfl (by omega) (by decide) ((hp9 j (by omega)).1.kp (A := bN) (I := bI0) (L := bN) (kF.rf.si rfl) rfl rfl rfl rfl rfl rfl).1 ?_
                        refine g_aload_n (q := 126) hx d_Mo_depth_125 rfl rfl ?_
                        refine g_geta (q := 129) hx d_Mo_depth_126 rfl fl_Mo_22 hq.g0 (hq.p5 hP) (by first | exact Nat.succ_ne_zero _ | omega) ?_
                        refine g_iload (q := 131) hx d_Mo_depth_129 rfl rfl ?_
                        refine g_iald (q := 132) hx d_Mo_depth_131 rfl hq.g5 rfl (by omega) (by decide) ((hp9 j (by omega)).1.kp (A := bN) (I := bI0) (L := bN) (kF.rf.si rfl) rfl rfl rfl rfl rfl rfl).2.2.2.1 ?_
                        refine g_iadd (q := 133) hx d_Mo_depth_132 rfl (nI_add _ _) ?_
                        refine g_icmp_ge (q := 136) (t := 142) hx d_Mo_depth_133 rfl rfl (nI_leI (by omega) (by omega)) (fun h133 => ?_) (fun h133 => ?_)
                        · refine g_iload_n (q := 143) hx d_Mo_depth_142 rfl rfl ?_
                          refine g_istore_n (q := 144) (lc' := [(2, _), (6, _), (5, _), (4, _), (3, _), (0, _), (1, _)]) hx d_Mo_depth_143 rfl (by decide) rfl ?_
                          refine g_iinc (q := 147) (lc' := [(6, _), (2, _), (5, _), (4, _), (3, _), (0, _), (1, _)]) hx d_Mo_depth_144 rfl rfl (z_inc _) (by decide) rfl ?_
                          refine g_goto (q := 96) hx d_Mo_depth_147 rfl ?_
                          have e9 : cnt + mOv (mAt rs) p j = cnt + mOv (mAt rs) p (j + 1) := by
                            simp only [mOv]
                            split <;> omega
                          rw [e9]
                          refine z_perm (lc' := [(6, .int (nI (27 + j + 1))), (5, .int (nI rs.length)), (4, .int (nI (mBeg arch size i))), (3, .int (nI i)), (2, .int (nI (cnt + mOv (mAt rs) p (j + 1)))), (0, .ref m), (1, .int (nI p))]) (fun q hq => by simp only [List.mem_cons, List.not_mem_nil, or_false] at hq ⊢; rcases hq with h | h | h | h | h | h | h <;> simp [h]) ?_
                          exact ih2 (j + 1) (by omega) (by omega)
                        · refine g_iload_n (q := 137) hx d_Mo_depth_136 rfl rfl ?_
                          refine g_iconst (q := 138) (v := nI 1) hx d_Mo_depth_137 rfl (by decide) ?_
                          refine g_iadd (q := 139) hx d_Mo_depth_138 rfl (nI_add _ _) ?_
                          refine g_goto (q := 143) hx d_Mo_depth_139 rfl ?_
                          refine g_istore_n (q := 144) (lc' := [(2, _), (6, _), (5, _), (4, _), (3, _), (0, _), (1, _)]) hx d_Mo_depth_143 rfl (by decide) rfl ?_
                          refine g_iinc (q := 147) (lc' := [(6, _), (2, _), (5, _), (4, _), (3, _), (0, _), (1, _)]) hx d_Mo_depth_144 rfl rfl (z_inc _) (by decide) rfl ?_
                          refine g_goto (q := 96) hx d_Mo_depth_147 rfl ?_
                          have e9 : cnt + mOv (mAt rs) p j + 1 = cnt + mOv (mAt rs) p (j + 1) := by
                            simp only [mOv]
                            split <;> omega
                          rw [e9]
                          refine z_perm (lc' := [(6, .int (nI (27 + j + 1))), (5, .int (nI rs.length)), (4, .int (nI (mBeg arch size i))), (3, .int (nI i)), (2, .int (nI (cnt + mOv (mAt rs) p (j + 1)))), (0, .ref m), (1, .int (nI p))]) (fun q hq => by simp only [List.mem_cons, List.not_mem_nil, or_false] at hq ⊢; rcases hq with h | h | h | h | h | h | h <;> simp [h]) ?_
                          exact ih2 (j + 1) (by omega) (by omega)
                  exact loop2 0 (Nat.zero_le _)
                · exact absurd (by omega) h81
              · rw [e9] at hT
                dsimp only at hT
                refine g_istore (q := 78) (lc' := [(5, _), (4, _), (3, _), (2, _), (0, _), (1, _)]) hx d_Mo_depth_76 rfl (by decide) rfl ?_
                refine g_aload_n (q := 79) hx d_Mo_depth_78 rfl rfl ?_
                refine g_iload (q := 81) hx d_Mo_depth_79 rfl rfl ?_
                refine g_if_ne (q := 84) (t := 88) hx d_Mo_depth_81 rfl rfl (zb_ne0 (by omega)) (fun h81 => ?_) (fun h81 => ?_)
                · exact absurd h81 (by omega)
                · refine g_iconst (q := 85) (v := nI 2) hx d_Mo_depth_84 rfl (by decide) ?_
                  refine g_goto (q := 89) hx d_Mo_depth_85 rfl ?_
                  refine g_puti (q := 92) hx d_Mo_depth_89 rfl fl_Mo_46 nf_7_0 hq.g0 ?_
                  refine g_bipush (q := 94) (v := nI 27) hx d_Mo_depth_92 rfl (by decide) ?_
                  refine g_istore (q := 96) (lc' := [(6, _), (5, _), (4, _), (3, _), (2, _), (0, _), (1, _)]) hx d_Mo_depth_94 rfl (by decide) rfl ?_
                  refine g_iload (q := 98) hx d_Mo_depth_96 rfl rfl ?_
                  refine g_bipush (q := 100) (v := nI 27) hx d_Mo_depth_98 rfl (by decide) ?_
                  refine g_iload (q := 102) hx d_Mo_depth_100 rfl rfl ?_
                  refine g_iadd (q := 103) hx d_Mo_depth_102 rfl (nI_add _ _) ?_
                  refine g_icmp_ge (q := 106) (t := 150) hx d_Mo_depth_103 rfl rfl (nI_leI (by omega) (by omega)) (fun h103 => ?_) (fun h103 => ?_)
                  · refine g_iinc (q := 153) (lc' := [(3, _), (6, _), (5, _), (4, _), (2, _), (0, _), (1, _)]) hx d_Mo_depth_150 rfl rfl (z_inc _) (by decide) rfl ?_
                    refine g_goto (q := 25) hx d_Mo_depth_153 rfl ?_
                    refine g_aload_n (q := 26) hx d_Mo_depth_25 rfl rfl ?_
                    refine g_geti (q := 29) hx d_Mo_depth_26 rfl fl_Mo_46 hq.g0 (zi_s _ _ _ _) ?_
                    refine g_if_ne (q := 32) (t := 156) hx d_Mo_depth_29 rfl rfl (zb_ne0 (by omega)) (fun h29 => ?_) (fun h29 => ?_)
                    · refine g_iconst (q := 157) (v := nI 0) hx d_Mo_depth_156 rfl (by decide) ?_
                      exact g_iret hx d_Mo_depth_157 rfl hQ ⟨Nat.le_refl _, Nat.le_refl _⟩ ⟨_, rfl, rfl, rfl, zi_s _ _ _ _, t13.tr kM.c0, hI3.c0⟩
                    · exact absurd h29 (by omega)
                  · exact absurd (by omega) h103
            · refine g_iload_n (q := 69) hx d_Mo_depth_68 rfl rfl ?_
              rw [if_pos (by omega)] at hT
              exact (nomatch hT)
      · have hge : size ≤ mBeg arch size i := Nat.not_lt.mp (fun q => hz ⟨i, by omega, rfl, q⟩)
        rw [show 500 - i = (500 - (i + 1)) + 1 by omega] at hT
        simp only [mDp] at hT
        rw [if_pos hge] at hT
        refine g_istore (q := 39) (lc' := [(4, _), (3, _), (2, _), (0, _), (1, _)]) hx d_Mo_depth_37 rfl (by decide) rfl ?_
        refine g_iload (q := 41) hx d_Mo_depth_39 rfl rfl ?_
        refine g_if_lt (q := 44) (t := 68) hx d_Mo_depth_41 rfl rfl Iff.rfl (fun h41 => ?_) (fun h41 => ?_)
        · refine g_iload_n (q := 69) hx d_Mo_depth_68 rfl rfl ?_
          exact (nomatch hT)
        · exact absurd (by decide) h41
  refine g_aload_n (q := 1) hx d_Mo_depth_0 rfl rfl ?_
  refine g_iload_n (q := 2) hx d_Mo_depth_1 rfl rfl ?_
  refine g_if_lt (q := 5) (t := 13) hx d_Mo_depth_2 rfl rfl (zb_lt0 (by omega)) (fun h2 => ?_) (fun h2 => ?_)
  · exact h2.elim
  · refine g_iload_n (q := 6) hx d_Mo_depth_5 rfl rfl ?_
    refine g_aload_n (q := 7) hx d_Mo_depth_6 rfl rfl ?_
    refine g_geti (q := 10) hx d_Mo_depth_7 rfl fl_Mo_57 hq.g0 hI.1.1 ?_
    refine g_icmp_lt (q := 13) (t := 17) hx d_Mo_depth_10 rfl rfl (nI_ltI (by omega) (by omega)) (fun h10 => ?_) (fun h10 => ?_)
    · refine g_iconst (q := 18) (v := nI 0) hx d_Mo_depth_17 rfl (by decide) ?_
      refine g_puti (q := 21) hx d_Mo_depth_18 rfl fl_Mo_46 nf_7_0 hq.g0 ?_
      refine g_iconst (q := 22) (v := nI 0) hx d_Mo_depth_21 rfl (by decide) ?_
      refine g_istore_n (q := 23) (lc' := [(2, _), (0, _), (1, _)]) hx d_Mo_depth_22 rfl (by decide) rfl ?_
      refine g_iconst (q := 24) (v := nI 0) hx d_Mo_depth_23 rfl (by decide) ?_
      refine g_istore_n (q := 25) (lc' := [(3, _), (2, _), (0, _), (1, _)]) hx d_Mo_depth_24 rfl (by decide) rfl ?_
      exact loop 0 _ 0 (by omega) (by omega) kM.c0 (zi_s _ _ _ _) hI.c0 ht
    · exact absurd (by omega) h10
set_option maxHeartbeats 4000000 in
set_option maxRecDepth 100000 in
theorem c_Mo_depth0 (l : Launch) (E : zE) (Γ : zG) (n : Nat) (M : zM) (m : Nat) (len c g k size : Nat) (ref arch : Nat → Nat) (fs hs : Nat → mRd) (ur : mRd) (hq : qX Γ M.2.2 m) (hI : qI M m len c g k size ref arch fs hs ur) (p v9 : Nat) (hp : p < len) (ht : mDp ref len arch size p 500 0 0 = some v9) : zCt l E Y_Mo_depth 6 (0, 0) [.ref m, .int (nI p)] Γ n M (zPi Γ n (fun v M' => v = nI v9 ∧ zi M' m 0 = nI 0 ∧ kM m M M' ∧ qI M' m len c g k size ref arch fs hs ur)) := by
  refine zCt.of [(0, .ref m), (1, .int (nI p))] (by decide) (Nat.le_of_ble_eq_true rfl) rfl (fun f hfl hx hQ => ?_)
  obtain ⟨P, hP⟩ : ∃ P, M.2.2 = P := ⟨_, rfl⟩
  rw [hP] at hq
  have hm0 := hq.m0
  have hl160 := hI.1.2.2.1
  have hs20 := hI.2.2.2.2.2.2.2.2.2.1
  have loop : ∀ (i : Nat) (M1 : zM), ∀ cnt : Nat, i ≤ 420 → cnt ≤ 3 * i → kM m M M1 → zi M1 m 0 = nI 0 → qI M1 m len c g k size ref arch fs hs ur → mDp ref len arch size p (500 - i) i cnt = some v9 → zGo f E Γ n (0, 0) M1 25 [(3, .int (nI i)), (2, .int (nI cnt)), (0, .ref m), (1, .int (nI p))] [] := by
    refine z_lp (fun i => 420 - i) _ ?_
    intro i M1 ih cnt hi hcn t1 t0 hI1 hT
    replace hP : M1.2.2 = P := t1.1.trans hP
    refine g_aload_n (q := 26) hx d_Mo_depth_25 rfl rfl ?_
    refine g_geti (q := 29) hx d_Mo_depth_26 rfl fl_Mo_46 hq.g0 t0 ?_
    refine g_if_ne (q := 32) (t := 156) hx d_Mo_depth_29 rfl rfl (zb_ne0 (by omega)) (fun h29 => ?_) (fun h29 => ?_)
    · exact absurd h29 (by omega)
    · refine g_aload_n (q := 33) hx d_Mo_depth_32 rfl rfl ?_
      refine g_iload_n (q := 34) hx d_Mo_depth_33 rfl rfl ?_
      refine g_ci (q := 37) (zrunV hx d_Mo_depth_34 lk_Mo_142 rfl rfl hq.g0 rfl rfl (Nat.le_of_ble_eq_true rfl) (by decide) (by omega) (by omega) (c_Mo_beginOf _ E Γ n _ m len c g k size ref arch fs hs ur (by rw [hP]; exact hq) hI1 (nI i))) rfl (fun r34 M2 p34 => ?_)
      obtain ⟨rfl, p34⟩ := p34
      have hi5 := mBeg_ge arch size i
      rcases p34 with ⟨i9, w1, w2, rfl⟩ | ⟨rfl, hz⟩
      · have hi6 := mBeg_ge arch size i9
        obtain rfl : i = i9 := (nI_eq (by omega) (by omega)).mp w1
        rw [show 500 - i = (500 - (i + 1)) + 1 by omega] at hT
        simp only [mDp] at hT
        rw [if_neg (by omega)] at hT
        refine g_istore (q := 39) (lc' := [(4, _), (3, _), (2, _), (0, _), (1, _)]) hx d_Mo_depth_37 rfl (by decide) rfl ?_
        refine g_iload (q := 41) hx d_Mo_depth_39 rfl rfl ?_
        refine g_if_lt (q := 44) (t := 68) hx d_Mo_depth_41 rfl rfl (zb_lt0 (by omega)) (fun h41 => ?_) (fun h41 => ?_)
        · exact h41.elim
        · refine g_iload (q := 46) hx d_Mo_depth_44 rfl rfl ?_
          refine g_iconst (q := 47) (v := nI 1) hx d_Mo_depth_46 rfl (by decide) ?_
          refine g_iadd (q := 48) hx d_Mo_depth_47 rfl (nI_add _ _) ?_
          refine g_aload_n (q := 49) hx d_Mo_depth_48 rfl rfl ?_
          refine g_geti (q := 52) hx d_Mo_depth_49 rfl fl_Mo_136 hq.g0 hI1.2.2.2.2.2.2.2.1 ?_
          refine g_icmp_ge (q := 55) (t := 70) hx d_Mo_depth_52 rfl rfl (nI_leI (by omega) (by omega)) (fun h52 => ?_) (fun h52 => ?_)
          · rw [if_neg (by omega)] at hT
            refine g_aload_n (q := 71) hx d_Mo_depth_70 rfl rfl ?_
            refine g_iload (q := 73) hx d_Mo_depth_71 rfl rfl ?_
            refine g_ci (q := 76) (zrunV hx d_Mo_depth_73 lk_Mo_172 rfl rfl hq.g0 rfl rfl (Nat.le_of_ble_eq_true rfl) (by decide) (by omega) (by omega) (c_Mo_take _ E Γ n _ m len size (mBeg arch size i) ref arch (by rw [hP]; exact hq) hI1.1 hI1.2.2.2.2.2.2.2 (by omega))) rfl (fun r73 M3 p73 => ?_)
            obtain ⟨k1, kt1, p73⟩ := p73
            replace hP : M3.2.2 = P := k1.r.trans hP
            have hI3 := hI1.kT k1 kt1
            have t13 := t1.tr k1.m
            rcases p73 with ⟨rs, e9, rfl, hp9⟩ | ⟨rfl, e9⟩
            · rw [e9] at hT
              dsimp only at hT
              have hle := mTake_len e9
              refine g_istore (q := 78) (lc' := [(5, _), (4, _), (3, _), (2, _), (0, _), (1, _)]) hx d_Mo_depth_76 rfl (by decide) rfl ?_
              refine g_aload_n (q := 79) hx d_Mo_depth_78 rfl rfl ?_
              refine g_iload (q := 81) hx d_Mo_depth_79 rfl rfl ?_
              refine g_if_ne (q := 84) (t := 88) hx d_Mo_depth_81 rfl rfl (zb_ne0 (by omega)) (fun h81 => ?_) (fun h81 => ?_)
              · refine g_iconst (q := 89) (v := nI 0) hx d_Mo_depth_88 rfl (by decide) ?_
                refine g_puti (q := 92) hx d_Mo_depth_89 rfl fl_Mo_46 nf_7_0 hq.g0 ?_
                refine g_bipush (q := 94) (v := nI 27) hx d_Mo_depth_92 rfl (by decide) ?_
                refine g_istore (q := 96) (lc' := [(6, _), (5, _), (4, _), (3, _), (2, _), (0, _), (1, _)]) hx d_Mo_depth_94 rfl (by decide) rfl ?_
                have loop2 : ∀ j : Nat, j ≤ rs.length → zGo f E Γ n (0, 0) (zsi M3 m 0 (nI 0)) 96 [(6, .int (nI (27 + j))), (5, .int (nI rs.length)), (4, .int (nI (mBeg arch size i))), (3, .int (nI i)), (2, .int (nI (cnt + mOv (mAt rs) p j))), (0, .ref m), (1, .int (nI p))] [] := by
                  refine z_loop (fun j => rs.length - j) _ ?_
                  intro j ih2 hj
                  refine g_iload (q := 98) hx d_Mo_depth_96 rfl rfl ?_
                  refine g_bipush (q := 100) (v := nI 27) hx d_Mo_depth_98 rfl (by decide) ?_
                  refine g_iload (q := 102) hx d_Mo_depth_100 rfl rfl ?_
                  refine g_iadd (q := 103) hx d_Mo_depth_102 rfl (nI_add _ _) ?_
                  refine g_icmp_ge (q := 106) (t := 150) hx d_Mo_depth_103 rfl rfl (nI_leI (by omega) (by omega)) (fun h103 => ?_) (fun h103 => ?_)
                  · obtain rfl : j = rs.length := (by omega)
                    refine g_iinc (q := 153) (lc' := [(3, _), (6, _), (5, _), (4, _), (2, _), (0, _), (1, _)]) hx d_Mo_depth_150 rfl rfl (z_inc _) (by decide) rfl ?_
                    refine g_goto (q := 25) hx d_Mo_depth_153 rfl ?_
                    refine z_perm (lc' := [(3, .int (nI (i + 1))), (2, .int (nI (cnt + mOv (mAt rs) p rs.length))), (0, .ref m), (1, .int (nI p))]) (fun q hq => by simp only [List.mem_cons, List.not_mem_nil, or_false] at hq ⊢; rcases hq with h | h | h | h <;> simp [h]) ?_
                    have hov9 := mOv_le (mAt rs) p rs.length
                    exact ih (i + 1) _ (by omega) (cnt + mOv (mAt rs) p rs.length) (by omega) (by omega) (t13.tr kM.c0) (zi_s _ _ _ _) hI3.c0 hT
                  · have hm9 := mPs_fit (hp9 j (by omega)).2.1
                    have hov := mOv_le (mAt rs) p j
                    refine g_aload_n (q := 107) hx d_Mo_depth_106 rfl rfl ?_
                    refine g_geta (q := 110) hx d_Mo_depth_107 rfl fl_Mo_13 hq.g0 (hq.p2 hP) (by first | exact Nat.succ_ne_zero _ | omega) ?_
                    refine g_iload (q := 112) hx d_Mo_depth_110 rfl rfl ?_
                    refine g_iald (q := 113) hx d_Mo_depth_112 rfl hq.g2 rfl (by omega) (by decide) ((hp9 j (by omega)).1.kp (A := bN) (I := bI0) (L := bN) (kF.rf.si rfl) rfl rfl rfl rfl rfl rfl).1 ?_
                    refine g_iload_n (q := 114) hx d_Mo_depth_113 rfl rfl ?_
                    refine g_icmp_gt (q := 117) (t := 142) hx d_Mo_depth_114 rfl rfl (nI_ltI (by omega) (by omega)) (fun h114 => ?_) (fun h114 => ?_)
                    · refine g_iload_n (q := 143) hx d_Mo_depth_142 rfl rfl ?_
                      refine g_istore_n (q := 144) (lc' := [(2, _), (6, _), (5, _), (4, _), (3, _), (0, _), (1, _)]) hx d_Mo_depth_143 rfl (by decide) rfl ?_
                      refine g_iinc (q := 147) (lc' := [(6, _), (2, _), (5, _), (4, _), (3, _), (0, _), (1, _)]) hx d_Mo_depth_144 rfl rfl (z_inc _) (by decide) rfl ?_
                      refine g_goto (q := 96) hx d_Mo_depth_147 rfl ?_
                      have e9 : cnt + mOv (mAt rs) p j = cnt + mOv (mAt rs) p (j + 1) := by
                        simp only [mOv]
                        split <;> omega
                      rw [e9]
                      refine z_perm (lc' := [(6, .int (nI (27 + j + 1))), (5, .int (nI rs.length)), (4, .int (nI (mBeg arch size i))), (3, .int (nI i)), (2, .int (nI (cnt + mOv (mAt rs) p (j + 1)))), (0, .ref m), (1, .int (nI p))]) (fun q hq => by simp only [List.mem_cons, List.not_mem_nil, or_false] at hq ⊢; rcases hq with h | h | h | h | h | h | h <;> simp [h]) ?_
                      exact ih2 (j + 1) (by omega) (by omega)
                    · refine g_iload_n (q := 118) hx d_Mo_depth_117 rfl rfl ?_
                      refine g_aload_n (q := 119) hx d_Mo_depth_118 rfl rfl ?_
                      refine g_geta (q := 122) hx d_Mo_depth_119 rfl fl_Mo_13 hq.g0 (hq.p2 hP) (by first | exact Nat.succ_ne_zero _ | omega) ?_
                      refine g_iload (q := 124) hx d_Mo_depth_122 rfl rfl ?_
                      refine g_iald (q := 125) hx d_Mo_depth_124 rfl hq.g2 rfl (by omega) (by decide) ((hp9 j (by omega)).1.kp (A := bN) (I := bI0) (L := bN) (kF.rf.si rfl) rfl rfl rfl rfl rfl rfl).1 ?_
                      refine g_aload_n (q := 126) hx d_Mo_depth_125 rfl rfl ?_
                      refine g_geta (q := 129) hx d_Mo_depth_126 rfl fl_Mo_22 hq.g0 (hq.p5 hP) (by first | exact Nat.succ_ne_zero _ | omega) ?_
                      refine g_iload (q := 131) hx d_Mo_depth_129 rfl rfl ?_
                      refine g_iald (q := 132) hx d_Mo_depth_131 rfl hq.g5 rfl (by omega) (by decide) ((hp9 j (by omega)).1.kp (A := bN) (I := bI0) (L := bN) (kF.rf.si rfl) rfl rfl rfl rfl rfl rfl).2.2.2.1 ?_
                      refine g_iadd (q := 133) hx d_Mo_depth_132 rfl (nI_add _ _) ?_
                      refine g_icmp_ge (q := 136) (t := 142) hx d_Mo_depth_133 rfl rfl (nI_leI (by omega) (by omega)) (fun h133 => ?_) (fun h133 => ?_)
                      · refine g_iload_n (q := 143) hx d_Mo_depth_142 rfl rfl ?_
                        refine g_istore_n (q := 144) (lc' := [(2, _), (6, _), (5, _), (4, _), (3, _), (0, _), (1, _)]) hx d_Mo_depth_143 rfl (by decide) rfl ?_
                        refine g_iinc (q := 147) (lc' := [(6, _), (2, _), (5, _), (4, _), (3, _), (0, _), (1, _)]) hx d_Mo_depth_144 rfl rfl (z_inc _) (by decide) rfl ?_
                        refine g_goto (q := 96) hx d_Mo_depth_147 rfl ?_
                        have e9 : cnt + mOv (mAt rs) p j = cnt + mOv (mAt rs) p (j + 1) := by
                          simp only [mOv]
                          split <;> omega
                        rw [e9]
                        refine z_perm (lc' := [(6, .int (nI (27 + j + 1))), (5, .int (nI rs.length)), (4, .int (nI (mBeg arch size i))), (3, .int (nI i)), (2, .int (nI (cnt + mOv (mAt rs) p (j + 1)))), (0, .ref m), (1, .int (nI p))]) (fun q hq => by simp only [List.mem_cons, List.not_mem_nil, or_false] at hq ⊢; rcases hq with h | h | h | h | h | h | h <;> simp [h]) ?_
                        exact ih2 (j + 1) (by omega) (by omega)
                      · refine g_iload_n (q := 137) hx d_Mo_depth_136 rfl rfl ?_
                        refine g_iconst (q := 138) (v := nI 1) hx d_Mo_depth_137 rfl (by decide) ?_
                        refine g_iadd (q := 139) hx d_Mo_depth_138 rfl (nI_add _ _) ?_
                        refine g_goto (q := 143) hx d_Mo_depth_139 rfl ?_
                        refine g_istore_n (q := 144) (lc' := [(2, _), (6, _), (5, _), (4, _), (3, _), (0, _), (1, _)]) hx d_Mo_depth_143 rfl (by decide) rfl ?_
                        refine g_iinc (q := 147) (lc' := [(6, _), (2, _), (5, _), (4, _), (3, _), (0, _), (1, _)]) hx d_Mo_depth_144 rfl rfl (z_inc _) (by decide) rfl ?_
                        refine g_goto (q := 96) hx d_Mo_depth_147 rfl ?_
                        have e9 : cnt + mOv (mAt rs) p j + 1 = cnt + mOv (mAt rs) p (j + 1) := by
                          simp only [mOv]
                          split <;> omega
                        rw [e9]
                        refine z_perm (lc' := [(6, .int (nI (27 + j + 1))), (5, .int (nI rs.length)), (4, .int (nI (mBeg arch size i))), (3, .int (nI i)), (2, .int (nI (cnt + mOv (mAt rs) p (j + 1)))), (0, .ref m), (1, .int (nI p))]) (fun q hq => by simp only [List.mem_cons, List.not_mem_nil, or_false] at hq ⊢; rcases hq with h | h | h | h | h | h | h <;> simp [h]) ?_
                        exact ih2 (j + 1) (by omega) (by omega)
                exact loop2 0 (Nat.zero_le _)
              · exact absurd (by omega) h81
            · rw [e9] at hT
              dsimp only at hT
              refine g_istore (q := 78) (lc' := [(5, _), (4, _), (3, _), (2, _), (0, _), (1, _)]) hx d_Mo_depth_76 rfl (by decide) rfl ?_
              refine g_aload_n (q := 79) hx d_Mo_depth_78 rfl rfl ?_
              refine g_iload (q := 81) hx d_Mo_depth_79 rfl rfl ?_
              refine g_if_ne (q := 84) (t := 88) hx d_Mo_depth_81 rfl rfl (zb_ne0 (by omega)) (fun h81 => ?_) (fun h81 => ?_)
              · exact absurd h81 (by omega)
              · refine g_iconst (q := 85) (v := nI 2) hx d_Mo_depth_84 rfl (by decide) ?_
                refine g_goto (q := 89) hx d_Mo_depth_85 rfl ?_
                refine g_puti (q := 92) hx d_Mo_depth_89 rfl fl_Mo_46 nf_7_0 hq.g0 ?_
                refine g_bipush (q := 94) (v := nI 27) hx d_Mo_depth_92 rfl (by decide) ?_
                refine g_istore (q := 96) (lc' := [(6, _), (5, _), (4, _), (3, _), (2, _), (0, _), (1, _)]) hx d_Mo_depth_94 rfl (by decide) rfl ?_
                refine g_iload (q := 98) hx d_Mo_depth_96 rfl rfl ?_
                refine g_bipush (q := 100) (v := nI 27) hx d_Mo_depth_98 rfl (by decide) ?_
                refine g_iload (q := 102) hx d_Mo_depth_100 rfl rfl ?_
                refine g_iadd (q := 103) hx d_Mo_depth_102 rfl (nI_add _ _) ?_
                refine g_icmp_ge (q := 106) (t := 150) hx d_Mo_depth_103 rfl rfl (nI_leI (by omega) (by omega)) (fun h103 => ?_) (fun h103 => ?_)
                · refine g_iinc (q := 153) (lc' := [(3, _), (6, _), (5, _), (4, _), (2, _), (0, _), (1, _)]) hx d_Mo_depth_150 rfl rfl (z_inc _) (by decide) rfl ?_
                  refine g_goto (q := 25) hx d_Mo_depth_153 rfl ?_
                  refine g_aload_n (q := 26) hx d_Mo_depth_25 rfl rfl ?_
                  refine g_geti (q := 29) hx d_Mo_depth_26 rfl fl_Mo_46 hq.g0 (zi_s _ _ _ _) ?_
                  refine g_if_ne (q := 32) (t := 156) hx d_Mo_depth_29 rfl rfl (zb_ne0 (by omega)) (fun h29 => ?_) (fun h29 => ?_)
                  · refine g_iconst (q := 157) (v := nI 0) hx d_Mo_depth_156 rfl (by decide) ?_
                    exact g_iret hx d_Mo_depth_157 rfl hQ ⟨Nat.le_refl _, Nat.le_refl _⟩ (nomatch hT)
                  · exact absurd h29 (by omega)
                · exact absurd (by omega) h103
          · have ha9 := hI1.2.2.2.2.2.2.2.2.2.2 (mBeg arch size i + 1)
            refine g_aload_n (q := 56) hx d_Mo_depth_55 rfl rfl ?_
            refine g_geta (q := 59) hx d_Mo_depth_56 rfl fl_Mo_31 hq.g0 (hq.p8 hP) (by first | exact Nat.succ_ne_zero _ | omega) ?_
            refine g_iload (q := 61) hx d_Mo_depth_59 rfl rfl ?_
            refine g_iconst (q := 62) (v := nI 1) hx d_Mo_depth_61 rfl (by decide) ?_
            refine g_iadd (q := 63) hx d_Mo_depth_62 rfl (nI_add _ _) ?_
            refine g_iald (q := 64) hx d_Mo_depth_63 rfl hq.g8 rfl (by omega) (by decide) (hI1.2.2.2.2.2.2.2.2.1 (mBeg arch size i + 1) (by omega)) ?_
            refine g_iload_n (q := 65) hx d_Mo_depth_64 rfl rfl ?_
            refine g_icmp_le (q := 68) (t := 70) hx d_Mo_depth_65 rfl rfl (nI_leI (by omega) (by omega)) (fun h65 => ?_) (fun h65 => ?_)
            · rw [if_neg (by omega)] at hT
              refine g_aload_n (q := 71) hx d_Mo_depth_70 rfl rfl ?_
              refine g_iload (q := 73) hx d_Mo_depth_71 rfl rfl ?_
              refine g_ci (q := 76) (zrunV hx d_Mo_depth_73 lk_Mo_172 rfl rfl hq.g0 rfl rfl (Nat.le_of_ble_eq_true rfl) (by decide) (by omega) (by omega) (c_Mo_take _ E Γ n _ m len size (mBeg arch size i) ref arch (by rw [hP]; exact hq) hI1.1 hI1.2.2.2.2.2.2.2 (by omega))) rfl (fun r73 M3 p73 => ?_)
              obtain ⟨k1, kt1, p73⟩ := p73
              replace hP : M3.2.2 = P := k1.r.trans hP
              have hI3 := hI1.kT k1 kt1
              have t13 := t1.tr k1.m
              rcases p73 with ⟨rs, e9, rfl, hp9⟩ | ⟨rfl, e9⟩
              · rw [e9] at hT
                dsimp only at hT
                have hle := mTake_len e9
                refine g_istore (q := 78) (lc' := [(5, _), (4, _), (3, _), (2, _), (0, _), (1, _)]) hx d_Mo_depth_76 rfl (by decide) rfl ?_
                refine g_aload_n (q := 79) hx d_Mo_depth_78 rfl rfl ?_
                refine g_iload (q := 81) hx d_Mo_depth_79 rfl rfl ?_
                refine g_if_ne (q := 84) (t := 88) hx d_Mo_depth_81 rfl rfl (zb_ne0 (by omega)) (fun h81 => ?_) (fun h81 => ?_)
                · refine g_iconst (q := 89) (v := nI 0) hx d_Mo_depth_88 rfl (by decide) ?_
                  refine g_puti (q := 92) hx d_Mo_depth_89 rfl fl_Mo_46 nf_7_0 hq.g0 ?_
                  refine g_bipush (q := 94) (v := nI 27) hx d_Mo_depth_92 rfl (by decide) ?_
                  refine g_istore (q := 96) (lc' := [(6, _), (5, _), (4, _), (3, _), (2, _), (0, _), (1, _)]) hx d_Mo_depth_94 rfl (by decide) rfl ?_
                  have loop2 : ∀ j : Nat, j ≤ rs.length → zGo f E Γ n (0, 0) (zsi M3 m 0 (nI 0)) 96 [(6, .int (nI (27 + j))), (5, .int (nI rs.length)), (4, .int (nI (mBeg arch size i))), (3, .int (nI i)), (2, .int (nI (cnt + mOv (mAt rs) p j))), (0, .ref m), (1, .int (nI p))] [] := by
                    refine z_loop (fun j => rs.length - j) _ ?_
                    intro j ih2 hj
                    refine g_iload (q := 98) hx d_Mo_depth_96 rfl rfl ?_
                    refine g_bipush (q := 100) (v := nI 27) hx d_Mo_depth_98 rfl (by decide) ?_
                    refine g_iload (q := 102) hx d_Mo_depth_100 rfl rfl ?_
                    refine g_iadd (q := 103) hx d_Mo_depth_102 rfl (nI_add _ _) ?_
                    refine g_icmp_ge (q := 106) (t := 150) hx d_Mo_depth_103 rfl rfl (nI_leI (by omega) (by omega)) (fun h103 => ?_) (fun h103 => ?_)
                    · obtain rfl : j = rs.length := (by omega)
                      refine g_iinc (q := 153) (lc' := [(3, _), (6, _), (5, _), (4, _), (2, _), (0, _), (1, _)]) hx d_Mo_depth_150 rfl rfl (z_inc _) (by decide) rfl ?_
                      refine g_goto (q := 25) hx d_Mo_depth_153 rfl ?_
                      refine z_perm (lc' := [(3, .int (nI (i + 1))), (2, .int (nI (cnt + mOv (mAt rs) p rs.length))), (0, .ref m), (1, .int (nI p))]) (fun q hq => by simp only [List.mem_cons, List.not_mem_nil, or_false] at hq ⊢; rcases hq with h | h | h | h <;> simp [h]) ?_
                      have hov9 := mOv_le (mAt rs) p rs.length
                      exact ih (i + 1) _ (by omega) (cnt + mOv (mAt rs) p rs.length) (by omega) (by omega) (t13.tr kM.c0) (zi_s _ _ _ _) hI3.c0 hT
                    · have hm9 := mPs_fit (hp9 j (by omega)).2.1
                      have hov := mOv_le (mAt rs) p j
                      refine g_aload_n (q := 107) hx d_Mo_depth_106 rfl rfl ?_
                      refine g_geta (q := 110) hx d_Mo_depth_107 rfl fl_Mo_13 hq.g0 (hq.p2 hP) (by first | exact Nat.succ_ne_zero _ | omega) ?_
                      refine g_iload (q := 112) hx d_Mo_depth_110 rfl rfl ?_
                      refine g_iald (q := 113) hx d_Mo_depth_112 rfl hq.g2 rfl (by omega) (by decide) ((hp9 j (by omega)).1.kp (A := bN) (I := bI0) (L := bN) (kF.rf.si rfl) rfl rfl rfl rfl rfl rfl).1 ?_
                      refine g_iload_n (q := 114) hx d_Mo_depth_113 rfl rfl ?_
                      refine g_icmp_gt (q := 117) (t := 142) hx d_Mo_depth_114 rfl rfl (nI_ltI (by omega) (by omega)) (fun h114 => ?_) (fun h114 => ?_)
                      · refine g_iload_n (q := 143) hx d_Mo_depth_142 rfl rfl ?_
                        refine g_istore_n (q := 144) (lc' := [(2, _), (6, _), (5, _), (4, _), (3, _), (0, _), (1, _)]) hx d_Mo_depth_143 rfl (by decide) rfl ?_
                        refine g_iinc (q := 147) (lc' := [(6, _), (2, _), (5, _), (4, _), (3, _), (0, _), (1, _)]) hx d_Mo_depth_144 rfl rfl (z_inc _) (by decide) rfl ?_
                        refine g_goto (q := 96) hx d_Mo_depth_147 rfl ?_
                        have e9 : cnt + mOv (mAt rs) p j = cnt + mOv (mAt rs) p (j + 1) := by
                          simp only [mOv]
                          split <;> omega
                        rw [e9]
                        refine z_perm (lc' := [(6, .int (nI (27 + j + 1))), (5, .int (nI rs.length)), (4, .int (nI (mBeg arch size i))), (3, .int (nI i)), (2, .int (nI (cnt + mOv (mAt rs) p (j + 1)))), (0, .ref m), (1, .int (nI p))]) (fun q hq => by simp only [List.mem_cons, List.not_mem_nil, or_false] at hq ⊢; rcases hq with h | h | h | h | h | h | h <;> simp [h]) ?_
                        exact ih2 (j + 1) (by omega) (by omega)
                      · refine g_iload_n (q := 118) hx d_Mo_depth_117 rfl rfl ?_
                        refine g_aload_n (q := 119) hx d_Mo_depth_118 rfl rfl ?_
                        refine g_geta (q := 122) hx d_Mo_depth_119 rfl fl_Mo_13 hq.g0 (hq.p2 hP) (by first | exact Nat.succ_ne_zero _ | omega) ?_
                        refine g_iload (q := 124) hx d_Mo_depth_122 rfl rfl ?_
                        refine g_iald (q := 125) hx d_Mo_depth_124 rfl hq.g2 rfl (by omega) (by decide) ((hp9 j (by omega)).1.kp (A := bN) (I := bI0) (L := bN) (kF.rf.si rfl) rfl rfl rfl rfl rfl rfl).1 ?_
                        refine g_aload_n (q := 126) hx d_Mo_depth_125 rfl rfl ?_
                        refine g_geta (q := 129) hx d_Mo_depth_126 rfl fl_Mo_22 hq.g0 (hq.p5 hP) (by first | exact Nat.succ_ne_zero _ | omega) ?_
                        refine g_iload (q := 131) hx d_Mo_depth_129 rfl rfl ?_
                        refine g_iald (q := 132) hx d_Mo_depth_131 rfl hq.g5 rfl (by omega) (by decide) ((hp9 j (by omega)).1.kp (A := bN) (I := bI0) (L := bN) (kF.rf.si rfl) rfl rfl rfl rfl rfl rfl).2.2.2.1 ?_
                        refine g_iadd (q := 133) hx d_Mo_depth_132 rfl (nI_add _ _) ?_
                        refine g_icmp_ge (q := 136) (t := 142) hx d_Mo_depth_133 rfl rfl (nI_leI (by omega) (by omega)) (fun h133 => ?_) (fun h133 => ?_)
                        · refine g_iload_n (q := 143) hx d_Mo_depth_142 rfl rfl ?_
                          refine g_istore_n (q := 144) (lc' := [(2, _), (6, _), (5, _), (4, _), (3, _), (0, _), (1, _)]) hx d_Mo_depth_143 rfl (by decide) rfl ?_
                          refine g_iinc (q := 147) (lc' := [(6, _), (2, _), (5, _), (4, _), (3, _), (0, _), (1, _)]) hx d_Mo_depth_144 rfl rfl (z_inc _) (by decide) rfl ?_
                          refine g_goto (q := 96) hx d_Mo_depth_147 rfl ?_
                          have e9 : cnt + mOv (mAt rs) p j = cnt + mOv (mAt rs) p (j + 1) := by
                            simp only [mOv]
                            split <;> omega
                          rw [e9]
                          refine z_perm (lc' := [(6, .int (nI (27 + j + 1))), (5, .int (nI rs.length)), (4, .int (nI (mBeg arch size i))), (3, .int (nI i)), (2, .int (nI (cnt + mOv (mAt rs) p (j + 1)))), (0, .ref m), (1, .int (nI p))]) (fun q hq => by simp only [List.mem_cons, List.not_mem_nil, or_false] at hq ⊢; rcases hq with h | h | h | h | h | h | h <;> simp [h]) ?_
                          exact ih2 (j + 1) (by omega) (by omega)
                        · refine g_iload_n (q := 137) hx d_Mo_depth_136 rfl rfl ?_
                          refine g_iconst (q := 138) (v := nI 1) hx d_Mo_depth_137 rfl (by decide) ?_
                          refine g_iadd (q := 139) hx d_Mo_depth_138 rfl (nI_add _ _) ?_
                          refine g_goto (q := 143) hx d_Mo_depth_139 rfl ?_
                          refine g_istore_n (q := 144) (lc' := [(2, _), (6, _), (5, _), (4, _), (3, _), (0, _), (1, _)]) hx d_Mo_depth_143 rfl (by decide) rfl ?_
                          refine g_iinc (q := 147) (lc' := [(6, _), (2, _), (5, _), (4, _), (3, _), (0, _), (1, _)]) hx d_Mo_depth_144 rfl rfl (z_inc _) (by decide) rfl ?_
                          refine g_goto (q := 96) hx d_Mo_depth_147 rfl ?_
                          have e9 : cnt + mOv (mAt rs) p j + 1 = cnt + mOv (mAt rs) p (j + 1) := by
                            simp only [mOv]
                            split <;> omega
                          rw [e9]
                          refine z_perm (lc' := [(6, .int (nI (27 + j + 1))), (5, .int (nI rs.length)), (4, .int (nI (mBeg arch size i))), (3, .int (nI i)), (2, .int (nI (cnt + mOv (mAt rs) p (j + 1)))), (0, .ref m), (1, .int (nI p))]) (fun q hq => by simp only [List.mem_cons, List.not_mem_nil, or_false] at hq ⊢; rcases hq with h | h | h | h | h | h | h <;> simp [h]) ?_
                          exact ih2 (j + 1) (by omega) (by omega)
                  exact loop2 0 (Nat.zero_le _)
                · exact absurd (by omega) h81
              · rw [e9] at hT
                dsimp only at hT
                refine g_istore (q := 78) (lc' := [(5, _), (4, _), (3, _), (2, _), (0, _), (1, _)]) hx d_Mo_depth_76 rfl (by decide) rfl ?_
                refine g_aload_n (q := 79) hx d_Mo_depth_78 rfl rfl ?_
                refine g_iload (q := 81) hx d_Mo_depth_79 rfl rfl ?_
                refine g_if_ne (q := 84) (t := 88) hx d_Mo_depth_81 rfl rfl (zb_ne0 (by omega)) (fun h81 => ?_) (fun h81 => ?_)
                · exact absurd h81 (by omega)
                · refine g_iconst (q := 85) (v := nI 2) hx d_Mo_depth_84 rfl (by decide) ?_
                  refine g_goto (q := 89) hx d_Mo_depth_85 rfl ?_
                  refine g_puti (q := 92) hx d_Mo_depth_89 rfl fl_Mo_46 nf_7_0 hq.g0 ?_
                  refine g_bipush (q := 94) (v := nI 27) hx d_Mo_depth_92 rfl (by decide) ?_
                  refine g_istore (q := 96) (lc' := [(6, _), (5, _), (4, _), (3, _), (2, _), (0, _), (1, _)]) hx d_Mo_depth_94 rfl (by decide) rfl ?_
                  refine g_iload (q := 98) hx d_Mo_depth_96 rfl rfl ?_
                  refine g_bipush (q := 100) (v := nI 27) hx d_Mo_depth_98 rfl (by decide) ?_
                  refine g_iload (q := 102) hx d_Mo_depth_100 rfl rfl ?_
                  refine g_iadd (q := 103) hx d_Mo_depth_102 rfl (nI_add _ _) ?_
                  refine g_icmp_ge (q := 106) (t := 150) hx d_Mo_depth_103 rfl rfl (nI_leI (by omega) (by omega)) (fun h103 => ?_) (fun h103 => ?_)
                  · refine g_iinc (q := 153) (lc' := [(3, _), (6, _), (5, _), (4, _), (2, _), (0, _), (1, _)]) hx d_Mo_depth_150 rfl rfl (z_inc _) (by decide) rfl ?_
                    refine g_goto (q := 25) hx d_Mo_depth_153 rfl ?_
                    refine g_aload_n (q := 26) hx d_Mo_depth_25 rfl rfl ?_
                    refine g_geti (q := 29) hx d_Mo_depth_26 rfl fl_Mo_46 hq.g0 (zi_s _ _ _ _) ?_
                    refine g_if_ne (q := 32) (t := 156) hx d_Mo_depth_29 rfl rfl (zb_ne0 (by omega)) (fun h29 => ?_) (fun h29 => ?_)
                    · refine g_iconst (q := 157) (v := nI 0) hx d_Mo_depth_156 rfl (by decide) ?_
                      exact g_iret hx d_Mo_depth_157 rfl hQ ⟨Nat.le_refl _, Nat.le_refl _⟩ (nomatch hT)
                    · exact absurd h29 (by omega)
                  · exact absurd (by omega) h103
            · refine g_iload_n (q := 69) hx d_Mo_depth_68 rfl rfl ?_
              rw [if_pos (by omega)] at hT
              obtain rfl := Option.some.inj hT
              exact g_iret hx d_Mo_depth_69 rfl hQ ⟨Nat.le_refl _, Nat.le_refl _⟩ ⟨_, rfl, rfl, rfl, rfl, t0, t1, hI1⟩
      · have hge : size ≤ mBeg arch size i := Nat.not_lt.mp (fun q => hz ⟨i, by omega, rfl, q⟩)
        rw [show 500 - i = (500 - (i + 1)) + 1 by omega] at hT
        simp only [mDp] at hT
        rw [if_pos hge] at hT
        refine g_istore (q := 39) (lc' := [(4, _), (3, _), (2, _), (0, _), (1, _)]) hx d_Mo_depth_37 rfl (by decide) rfl ?_
        refine g_iload (q := 41) hx d_Mo_depth_39 rfl rfl ?_
        refine g_if_lt (q := 44) (t := 68) hx d_Mo_depth_41 rfl rfl Iff.rfl (fun h41 => ?_) (fun h41 => ?_)
        · refine g_iload_n (q := 69) hx d_Mo_depth_68 rfl rfl ?_
          obtain rfl := Option.some.inj hT
          exact g_iret hx d_Mo_depth_69 rfl hQ ⟨Nat.le_refl _, Nat.le_refl _⟩ ⟨_, rfl, rfl, rfl, rfl, t0, t1, hI1⟩
        · exact absurd (by decide) h41
  refine g_aload_n (q := 1) hx d_Mo_depth_0 rfl rfl ?_
  refine g_iload_n (q := 2) hx d_Mo_depth_1 rfl rfl ?_
  refine g_if_lt (q := 5) (t := 13) hx d_Mo_depth_2 rfl rfl (zb_lt0 (by omega)) (fun h2 => ?_) (fun h2 => ?_)
  · exact h2.elim
  · refine g_iload_n (q := 6) hx d_Mo_depth_5 rfl rfl ?_
    refine g_aload_n (q := 7) hx d_Mo_depth_6 rfl rfl ?_
    refine g_geti (q := 10) hx d_Mo_depth_7 rfl fl_Mo_57 hq.g0 hI.1.1 ?_
    refine g_icmp_lt (q := 13) (t := 17) hx d_Mo_depth_10 rfl rfl (nI_ltI (by omega) (by omega)) (fun h10 => ?_) (fun h10 => ?_)
    · refine g_iconst (q := 18) (v := nI 0) hx d_Mo_depth_17 rfl (by decide) ?_
      refine g_puti (q := 21) hx d_Mo_depth_18 rfl fl_Mo_46 nf_7_0 hq.g0 ?_
      refine g_iconst (q := 22) (v := nI 0) hx d_Mo_depth_21 rfl (by decide) ?_
      refine g_istore_n (q := 23) (lc' := [(2, _), (0, _), (1, _)]) hx d_Mo_depth_22 rfl (by decide) rfl ?_
      refine g_iconst (q := 24) (v := nI 0) hx d_Mo_depth_23 rfl (by decide) ?_
      refine g_istore_n (q := 25) (lc' := [(3, _), (2, _), (0, _), (1, _)]) hx d_Mo_depth_24 rfl (by decide) rfl ?_
      exact loop 0 _ 0 (by omega) (by omega) kM.c0 (zi_s _ _ _ _) hI.c0 ht
    · exact absurd (by omega) h10
