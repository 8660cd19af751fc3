set_option maxHeartbeats 4000000 in
set_option maxRecDepth 100000 in
theorem c_Sr_depth1 (l : Launch) (hl : l.stackTraces = false) (E : zE) (Γ : zG) (n : Nat) (M : zM) (x sh sp : Nat) (len c g k size : Nat) (ref arch : Nat → Nat) (fs hs : Nat → mRd) (ur : mRd) (hI : pI Γ M x sh sp len c g k size ref arch fs hs ur) (y : Int32) (hy : ¬ ∃ u : Nat, u < len ∧ y = nI u) : zCx l E Y_Sr_depth 7 (1, 6) [.ref x, .int y] Γ n M "java/lang/IndexOutOfBoundsException" (n + 1) (fun M' => M' = M) := by
  refine zCx.of [(0, .ref x), (1, .int y)] (by decide) (Nat.le_of_ble_eq_true rfl) rfl (fun f hfl hx hno hQ => ?_)
  have htr : (zll f.1).stackTraces = false := by rw [hfl]; exact hl
  have h0 := hI.1.1.1
  have hx0 := hI.1.1.2
  have hsp := hI.1.2.2.1
  have hc24 := hI.2.2.1.2
  have hg1 := hI.2.2.2.2.1.2
  have hk3 := hI.2.2.2.2.2.2.1.2
  have hl160 := hI.2.1.2.2.1
  have hRs := hI.1.2.2.2.1
  have hF := hI.1.2.2.2.2.1
  have hf0 := hF.1
  have hf1 := hF.2.1
  have hA := hI.1.2.2.2.2.2.2.2.1
  have hcz := hI.2.2.1.1
  have hgz := hI.2.2.2.2.1.1
  have q0 : ∀ _ : Unit, zr M x 0 = x + 1 := fun _ => hI.1.2.1.1
  have q1 : ∀ _ : Unit, zr M x 1 = x + 3 := fun _ => hI.1.2.1.2.1
  have q4 : ∀ _ : Unit, zr M x 4 = sh := fun _ => hI.1.2.1.2.2.2.1
  have q5 : ∀ _ : Unit, zr M x 5 = sp := fun _ => hI.1.2.1.2.2.2.2.1
  have q6 : ∀ _ : Unit, zr M x 6 = x + 134 := fun _ => hI.1.2.1.2.2.2.2.2.1
  have f0 : ∀ _ : Unit, zr M (x + 3) 0 = x + 4 := fun _ => hF.2.2.1
  have fi : ∀ i, i < 25 → zr M (x + 4) i = x + 5 + 4 * i := fun i hi => (hF.2.2.2 i hi).1
  have fs9 : ∀ i, i < 25 → pSh Γ M.2.2 (x + 5 + 4 * i) := fun i hi => (hF.2.2.2 i hi).2
  refine g_iload_n (q := 1) hx d_Sr_depth_0 rfl rfl ?_
  refine g_if_lt (q := 4) (t := 15) hx d_Sr_depth_1 rfl rfl Iff.rfl (fun h1 => ?_) (fun h1 => ?_)
  · exact g_thr (post := (fun M' => M' = M)) (ik := 91) (is := 193) (ic := 95) hx htr hno d_Sr_depth_15 d_Sr_depth_18 d_Sr_depth_19 d_Sr_depth_21 d_Sr_depth_24 thr_IO zs_193 (by omega) (by decide) (by decide) (Nat.le_of_ble_eq_true rfl) rfl hQ
  · refine g_iload_n (q := 5) hx d_Sr_depth_4 rfl rfl ?_
    refine g_aload_n (q := 6) hx d_Sr_depth_5 rfl rfl ?_
    refine g_geto (q := 9) hx d_Sr_depth_6 rfl fl_Sr_12 h0 (q0 ()) (by first | exact Nat.succ_ne_zero _ | omega) ?_
    refine g_geti (q := 12) hx d_Sr_depth_9 rfl fl_Sr_81 hRs.1 hI.2.1.1 ?_
    refine g_icmp_lt (q := 15) (t := 25) hx d_Sr_depth_12 rfl rfl Iff.rfl (fun h12 => ?_) (fun h12 => ?_)
    · exact absurd (z_lt0 h1 h12 (by omega)) hy
    · exact g_thr (post := (fun M' => M' = M)) (ik := 91) (is := 193) (ic := 95) hx htr hno d_Sr_depth_15 d_Sr_depth_18 d_Sr_depth_19 d_Sr_depth_21 d_Sr_depth_24 thr_IO zs_193 (by omega) (by decide) (by decide) (Nat.le_of_ble_eq_true rfl) rfl hQ
set_option maxHeartbeats 4000000 in
set_option maxRecDepth 100000 in
theorem c_Sr_depth2 (l : Launch) (hl : l.stackTraces = false) (E : zE) (Γ : zG) (n : Nat) (M : zM) (x sh sp : Nat) (len c g k size : Nat) (ref arch : Nat → Nat) (fs hs : Nat → mRd) (ur : mRd) (hI : pI Γ M x sh sp len c g k size ref arch fs hs ur) (p : Nat) (hp : p < len) (ht : mDp ref len arch size p 500 0 0 = none) : zCx l E Y_Sr_depth 7 (1, 6) [.ref x, .int (nI p)] Γ n M "java/lang/IllegalArgumentException" (n + 1) (fun M' => kX x M M' ∧ pI Γ M' x sh sp len c g k size ref arch fs hs ur) := by
  refine zCx.of [(0, .ref x), (1, .int (nI p))] (by decide) (Nat.le_of_ble_eq_true rfl) rfl (fun f hfl hx hno hQ => ?_)
  have htr : (zll f.1).stackTraces = false := by rw [hfl]; exact hl
  have h0 := hI.1.1.1
  have hx0 := hI.1.1.2
  have hsp := hI.1.2.2.1
  have hc24 := hI.2.2.1.2
  have hg1 := hI.2.2.2.2.1.2
  have hk3 := hI.2.2.2.2.2.2.1.2
  have hl160 := hI.2.1.2.2.1
  have hRs := hI.1.2.2.2.1
  have hF := hI.1.2.2.2.2.1
  have hf0 := hF.1
  have hf1 := hF.2.1
  have hA := hI.1.2.2.2.2.2.2.2.1
  have hcz := hI.2.2.1.1
  have hgz := hI.2.2.2.2.1.1
  have q0 : ∀ _ : Unit, zr M x 0 = x + 1 := fun _ => hI.1.2.1.1
  have q1 : ∀ _ : Unit, zr M x 1 = x + 3 := fun _ => hI.1.2.1.2.1
  have q4 : ∀ _ : Unit, zr M x 4 = sh := fun _ => hI.1.2.1.2.2.2.1
  have q5 : ∀ _ : Unit, zr M x 5 = sp := fun _ => hI.1.2.1.2.2.2.2.1
  have q6 : ∀ _ : Unit, zr M x 6 = x + 134 := fun _ => hI.1.2.1.2.2.2.2.2.1
  have f0 : ∀ _ : Unit, zr M (x + 3) 0 = x + 4 := fun _ => hF.2.2.1
  have fi : ∀ i, i < 25 → zr M (x + 4) i = x + 5 + 4 * i := fun i hi => (hF.2.2.2 i hi).1
  have fs9 : ∀ i, i < 25 → pSh Γ M.2.2 (x + 5 + 4 * i) := fun i hi => (hF.2.2.2 i hi).2
  have hs20 := hI.2.2.2.2.2.2.2.2.2.2.1
  have loop : ∀ (i : Nat) (M1 : zM), ∀ cnt : Nat, i ≤ 420 → cnt ≤ 3 * i → mBeg arch size i ≤ 3000 → kX x M M1 → pI Γ M1 x sh sp len c g k size ref arch fs hs ur → mDp ref len arch size p (500 - i) i cnt = none → zGo f E Γ n (0, 0) M1 29 [(3, .int (nI (mBeg arch size i))), (2, .int (nI cnt)), (0, .ref x), (1, .int (nI p))] [] := by
    refine z_lp (fun i => 420 - i) _ ?_
    intro i M1 ih cnt hi hcn hb3 t1 hI1 hT
    have hi5 := mBeg_ge arch size i
    have q01 : ∀ _ : Unit, zr M1 x 0 = x + 1 := fun _ => hI1.1.2.1.1
    have q51 : ∀ _ : Unit, zr M1 x 5 = sp := fun _ => hI1.1.2.1.2.2.2.2.1
    have q61 : ∀ _ : Unit, zr M1 x 6 = x + 134 := fun _ => hI1.1.2.1.2.2.2.2.2.1
    have qA1 : ∀ _ : Unit, zr M1 (x + 134) 0 = x + 134 + 1 := fun _ => hI1.1.2.2.2.2.2.2.2.1.2.2.1
    refine g_iload_n (q := 30) hx d_Sr_depth_29 rfl rfl ?_
    refine g_aload_n (q := 31) hx d_Sr_depth_30 rfl rfl ?_
    refine g_geto (q := 34) hx d_Sr_depth_31 rfl fl_Sr_44 h0 (q61 ()) (by first | exact Nat.succ_ne_zero _ | omega) ?_
    refine g_geti (q := 37) hx d_Sr_depth_34 rfl fl_Sr_150 hA.1 hI1.2.2.2.2.2.2.2.2.1 ?_
    refine g_icmp_ge (q := 40) (t := 116) hx d_Sr_depth_37 rfl rfl (nI_leI (by omega) (by omega)) (fun h37 => ?_) (fun h37 => ?_)
    · rw [show 500 - i = (500 - (i + 1)) + 1 by omega] at hT
      simp only [mDp] at hT
      rw [if_pos (by omega)] at hT
      exact (nomatch hT)
    · rw [show 500 - i = (500 - (i + 1)) + 1 by omega] at hT
      simp only [mDp] at hT
      rw [if_neg (by omega)] at hT
      refine g_aload_n (q := 41) hx d_Sr_depth_40 rfl rfl ?_
      refine g_geto (q := 44) hx d_Sr_depth_41 rfl fl_Sr_44 h0 (q61 ()) (by first | exact Nat.succ_ne_zero _ | omega) ?_
      refine g_iload_n (q := 45) hx d_Sr_depth_44 rfl rfl ?_
      refine g_iconst (q := 46) (v := nI 1) hx d_Sr_depth_45 rfl (by decide) ?_
      refine g_iadd (q := 47) hx d_Sr_depth_46 rfl (nI_add _ _) ?_
      refine g_ci (q := 50) (zrunV hx d_Sr_depth_47 lk_Sr_174 rfl rfl hA.1 rfl rfl (Nat.le_of_ble_eq_true rfl) (by decide) (by omega) (by omega) (c_Ar_hasN _ E Γ n _ (x + 134) size (mBeg arch size i + 1) hA.1 hI1.2.2.2.2.2.2.2.2.1 hs20 (by omega))) rfl (fun r47 M2 p47 => ?_)
      obtain ⟨e47, p47⟩ := p47
      subst M2
      rcases p47 with ⟨rfl, hz⟩ | ⟨rfl, hz⟩
      · refine g_if_eq (q := 53) (t := 71) hx d_Sr_depth_50 rfl rfl (zb_eq0 (by omega)) (fun h50 => ?_) (fun h50 => ?_)
        · exact absurd h50 (by omega)
        · have ha9 := hI1.2.2.2.2.2.2.2.2.2.2.2 (mBeg arch size i + 1)
          refine g_aload_n (q := 54) hx d_Sr_depth_53 rfl rfl ?_
          refine g_geto (q := 57) hx d_Sr_depth_54 rfl fl_Sr_44 h0 (q61 ()) (by first | exact Nat.succ_ne_zero _ | omega) ?_
          refine g_geta (q := 60) hx d_Sr_depth_57 rfl fl_Sr_177 hA.1 (qA1 ()) (by first | exact Nat.succ_ne_zero _ | omega) ?_
          refine g_iload_n (q := 61) hx d_Sr_depth_60 rfl rfl ?_
          refine g_iconst (q := 62) (v := nI 1) hx d_Sr_depth_61 rfl (by decide) ?_
          refine g_iadd (q := 63) hx d_Sr_depth_62 rfl (nI_add _ _) ?_
          refine g_iald (q := 64) hx d_Sr_depth_63 rfl hA.2.1 rfl (by omega) (by decide) (hI1.2.2.2.2.2.2.2.2.2.1 (mBeg arch size i + 1) (by omega)) ?_
          refine g_iload_n (q := 65) hx d_Sr_depth_64 rfl rfl ?_
          refine g_icmp_le (q := 68) (t := 71) hx d_Sr_depth_65 rfl rfl (nI_leI (by omega) (by omega)) (fun h65 => ?_) (fun h65 => ?_)
          · rw [if_neg (by omega)] at hT
            refine g_aload_n (q := 72) hx d_Sr_depth_71 rfl rfl ?_
            refine g_iload_n (q := 73) hx d_Sr_depth_72 rfl rfl ?_
            refine g_ci (q := 76) (zrunV hx d_Sr_depth_73 lk_Sr_188 rfl rfl h0 rfl rfl (Nat.le_of_ble_eq_true rfl) (by decide) (by omega) (by omega) (c_Sr_readsSoundly _ E Γ n _ x (x + 1) sp (x + 134) (x + 136) (x + 139) len size (mBeg arch size i) ref arch h0 (q01 ()) (q51 ()) (q61 ()) hI1.1.2.1.2.2.2.2.2.2.1 hI1.1.2.1.2.2.2.2.2.2.2 (by omega) hI1.1.2.2.2.1 hI1.2.1 hI1.1.2.2.2.2.2.2.1.2 hI1.1.2.2.2.2.2.2.2.1 hI1.2.2.2.2.2.2.2.2 hI1.1.2.2.2.2.2.2.2.2.1 hI1.1.2.2.2.2.2.2.2.2.2 (by omega))) rfl (fun r73 M3 p73 => ?_)
            obtain ⟨z3, p73⟩ := p73
            have hI3 := sound_keeps hI1 z3
            have t13 := t1.tr (kX.om z3 (fun a q => by unfold sSd at q; omega))
            rcases p73 with ⟨rfl, rs, e9, h9, h8⟩ | ⟨rfl, e9⟩
            · rw [e9] at hT
              dsimp only at hT
              have hle := mTake_len e9
              have q53 : ∀ _ : Unit, zr M3 x 5 = sp := fun _ => hI3.1.2.1.2.2.2.2.1
              have q63 : ∀ _ : Unit, zr M3 x 6 = x + 134 := fun _ => hI3.1.2.1.2.2.2.2.2.1
              refine g_if_ne (q := 79) (t := 89) hx d_Sr_depth_76 rfl rfl (zb_ne0 (by omega)) (fun h76 => ?_) (fun h76 => ?_)
              · refine g_iload_n (q := 90) hx d_Sr_depth_89 rfl rfl ?_
                refine g_aload_n (q := 91) hx d_Sr_depth_90 rfl rfl ?_
                refine g_geto (q := 94) hx d_Sr_depth_91 rfl fl_Sr_38 h0 (q53 ()) (by first | exact Nat.succ_ne_zero _ | omega) ?_
                refine g_iload_n (q := 95) hx d_Sr_depth_94 rfl rfl ?_
                refine g_ci (q := 98) (zrunV hx d_Sr_depth_95 lk_Sr_197 rfl rfl hI3.1.2.2.2.2.2.2.1.2.1 rfl rfl (Nat.le_of_ble_eq_true rfl) (by decide) (by omega) (by omega) (c_Rr_countOver _ E Γ n _ sp (sp + 1) 3 rs.length p (fun j => sp + 2 + 4 * j) (mAt rs) hI3.1.2.2.2.2.2.2.1.2.1 hI3.1.2.2.2.2.2.2.1.2.2.2.1 (by omega) hI3.1.2.2.2.2.2.2.1.2.2.1 (by decide) h9 hle.2 (by omega) (fun j hj => ⟨(hI3.1.2.2.2.2.2.2.1.2.2.2.2 j (by omega)).1, by show 0 < sp + 2 + 4 * j; omega, (hI3.1.2.2.2.2.2.2.1.2.2.2.2 j (by omega)).2.1.1, (h8 j hj).1.1.1, (h8 j hj).1.1.2.2.2.1, by have := mPs_fit (h8 j hj).1.2.2; omega⟩))) rfl (fun r95 M4 p95 => ?_)
                obtain ⟨rfl, e95⟩ := p95
                subst M4
                have hov := mOv_le (mAt rs) p rs.length
                refine g_iadd (q := 99) hx d_Sr_depth_98 rfl (nI_add _ _) ?_
                refine g_istore_n (q := 100) (lc' := [(2, _), (3, _), (0, _), (1, _)]) hx d_Sr_depth_99 rfl (by decide) rfl ?_
                refine g_iload_n (q := 101) hx d_Sr_depth_100 rfl rfl ?_
                refine g_iconst (q := 102) (v := nI 5) hx d_Sr_depth_101 rfl (by decide) ?_
                refine g_aload_n (q := 103) hx d_Sr_depth_102 rfl rfl ?_
                refine g_geto (q := 106) hx d_Sr_depth_103 rfl fl_Sr_44 h0 (q63 ()) (by first | exact Nat.succ_ne_zero _ | omega) ?_
                refine g_iload_n (q := 107) hx d_Sr_depth_106 rfl rfl ?_
                refine g_ci (q := 110) (zrunV hx d_Sr_depth_107 lk_Sr_200 rfl rfl hA.1 rfl rfl (Nat.le_of_ble_eq_true rfl) (by decide) (by omega) (by omega) (c_Ar_rowLength _ E Γ n _ (x + 134) size arch (mBeg arch size i) hI3.1.2.2.2.2.2.2.2.1 hI3.2.2.2.2.2.2.2.2 (by omega))) rfl (fun r107 M5 p107 => ?_)
                obtain ⟨rfl, e107⟩ := p107
                subst M5
                have hrl9 := mRlen_lt hI.2.2.2.2.2.2.2.2.2.2.2 size (mBeg arch size i)
                refine g_iadd (q := 111) hx d_Sr_depth_110 rfl (nI_add _ _) ?_
                refine g_iadd (q := 112) hx d_Sr_depth_111 rfl (nI_add _ _) ?_
                refine g_istore_n (q := 113) (lc' := [(3, _), (2, _), (0, _), (1, _)]) hx d_Sr_depth_112 rfl (by decide) rfl ?_
                refine g_goto (q := 29) hx d_Sr_depth_113 rfl ?_
                have e8 : mBeg arch size i + (5 + mRlen arch size (mBeg arch size i)) = mBeg arch size (i + 1) := by simp only [mBeg]; omega
                rw [e8]
                refine z_perm (lc' := [(3, .int (nI (mBeg arch size (i + 1)))), (2, .int (nI (cnt + mOv (mAt rs) p rs.length))), (0, .ref x), (1, .int (nI p))]) (fun q hq => by simp only [List.mem_cons, List.not_mem_nil, or_false] at hq ⊢; rcases hq with h | h | h | h <;> simp [h]) ?_
                exact ih (i + 1) M3 (by omega) (cnt + mOv (mAt rs) p rs.length) (by omega) (by omega) (by rw [← e8]; omega) t13 hI3 hT
              · exact absurd h76 (by omega)
            · rw [e9] at hT
              dsimp only at hT
              refine g_if_ne (q := 79) (t := 89) hx d_Sr_depth_76 rfl rfl (zb_ne0 (by omega)) (fun h76 => ?_) (fun h76 => ?_)
              · exact absurd h76 (by omega)
              · exact g_thr (post := (fun M' => kX x M M' ∧ pI Γ M' x sh sp len c g k size ref arch fs hs ur)) (ik := 65) (is := 195) (ic := 69) hx htr hno d_Sr_depth_79 d_Sr_depth_82 d_Sr_depth_83 d_Sr_depth_85 d_Sr_depth_88 thr_IA zs_195 (by omega) (by decide) (by decide) (Nat.le_of_ble_eq_true rfl) ⟨t13, hI3⟩ hQ
          · refine g_goto (q := 116) hx d_Sr_depth_68 rfl ?_
            rw [if_pos (by omega)] at hT
            exact (nomatch hT)
      · refine g_if_eq (q := 53) (t := 71) hx d_Sr_depth_50 rfl rfl (zb_eq0 (by omega)) (fun h50 => ?_) (fun h50 => ?_)
        · rw [if_neg (by omega)] at hT
          refine g_aload_n (q := 72) hx d_Sr_depth_71 rfl rfl ?_
          refine g_iload_n (q := 73) hx d_Sr_depth_72 rfl rfl ?_
          refine g_ci (q := 76) (zrunV hx d_Sr_depth_73 lk_Sr_188 rfl rfl h0 rfl rfl (Nat.le_of_ble_eq_true rfl) (by decide) (by omega) (by omega) (c_Sr_readsSoundly _ E Γ n _ x (x + 1) sp (x + 134) (x + 136) (x + 139) len size (mBeg arch size i) ref arch h0 (q01 ()) (q51 ()) (q61 ()) hI1.1.2.1.2.2.2.2.2.2.1 hI1.1.2.1.2.2.2.2.2.2.2 (by omega) hI1.1.2.2.2.1 hI1.2.1 hI1.1.2.2.2.2.2.2.1.2 hI1.1.2.2.2.2.2.2.2.1 hI1.2.2.2.2.2.2.2.2 hI1.1.2.2.2.2.2.2.2.2.1 hI1.1.2.2.2.2.2.2.2.2.2 (by omega))) rfl (fun r73 M3 p73 => ?_)
          obtain ⟨z3, p73⟩ := p73
          have hI3 := sound_keeps hI1 z3
          have t13 := t1.tr (kX.om z3 (fun a q => by unfold sSd at q; omega))
          rcases p73 with ⟨rfl, rs, e9, h9, h8⟩ | ⟨rfl, e9⟩
          · rw [e9] at hT
            dsimp only at hT
            have hle := mTake_len e9
            have q53 : ∀ _ : Unit, zr M3 x 5 = sp := fun _ => hI3.1.2.1.2.2.2.2.1
            have q63 : ∀ _ : Unit, zr M3 x 6 = x + 134 := fun _ => hI3.1.2.1.2.2.2.2.2.1
            refine g_if_ne (q := 79) (t := 89) hx d_Sr_depth_76 rfl rfl (zb_ne0 (by omega)) (fun h76 => ?_) (fun h76 => ?_)
            · refine g_iload_n (q := 90) hx d_Sr_depth_89 rfl rfl ?_
              refine g_aload_n (q := 91) hx d_Sr_depth_90 rfl rfl ?_
              refine g_geto (q := 94) hx d_Sr_depth_91 rfl fl_Sr_38 h0 (q53 ()) (by first | exact Nat.succ_ne_zero _ | omega) ?_
              refine g_iload_n (q := 95) hx d_Sr_depth_94 rfl rfl ?_
              refine g_ci (q := 98) (zrunV hx d_Sr_depth_95 lk_Sr_197 rfl rfl hI3.1.2.2.2.2.2.2.1.2.1 rfl rfl (Nat.le_of_ble_eq_true rfl) (by decide) (by omega) (by omega) (c_Rr_countOver _ E Γ n _ sp (sp + 1) 3 rs.length p (fun j => sp + 2 + 4 * j) (mAt rs) hI3.1.2.2.2.2.2.2.1.2.1 hI3.1.2.2.2.2.2.2.1.2.2.2.1 (by omega) hI3.1.2.2.2.2.2.2.1.2.2.1 (by decide) h9 hle.2 (by omega) (fun j hj => ⟨(hI3.1.2.2.2.2.2.2.1.2.2.2.2 j (by omega)).1, by show 0 < sp + 2 + 4 * j; omega, (hI3.1.2.2.2.2.2.2.1.2.2.2.2 j (by omega)).2.1.1, (h8 j hj).1.1.1, (h8 j hj).1.1.2.2.2.1, by have := mPs_fit (h8 j hj).1.2.2; omega⟩))) rfl (fun r95 M4 p95 => ?_)
              obtain ⟨rfl, e95⟩ := p95
              subst M4
              have hov := mOv_le (mAt rs) p rs.length
              refine g_iadd (q := 99) hx d_Sr_depth_98 rfl (nI_add _ _) ?_
              refine g_istore_n (q := 100) (lc' := [(2, _), (3, _), (0, _), (1, _)]) hx d_Sr_depth_99 rfl (by decide) rfl ?_
              refine g_iload_n (q := 101) hx d_Sr_depth_100 rfl rfl ?_
              refine g_iconst (q := 102) (v := nI 5) hx d_Sr_depth_101 rfl (by decide) ?_
              refine g_aload_n (q := 103) hx d_Sr_depth_102 rfl rfl ?_
              refine g_geto (q := 106) hx d_Sr_depth_103 rfl fl_Sr_44 h0 (q63 ()) (by first | exact Nat.succ_ne_zero _ | omega) ?_
              refine g_iload_n (q := 107) hx d_Sr_depth_106 rfl rfl ?_
              refine g_ci (q := 110) (zrunV hx d_Sr_depth_107 lk_Sr_200 rfl rfl hA.1 rfl rfl (Nat.le_of_ble_eq_true rfl) (by decide) (by omega) (by omega) (c_Ar_rowLength _ E Γ n _ (x + 134) size arch (mBeg arch size i) hI3.1.2.2.2.2.2.2.2.1 hI3.2.2.2.2.2.2.2.2 (by omega))) rfl (fun r107 M5 p107 => ?_)
              obtain ⟨rfl, e107⟩ := p107
              subst M5
              have hrl9 := mRlen_lt hI.2.2.2.2.2.2.2.2.2.2.2 size (mBeg arch size i)
              refine g_iadd (q := 111) hx d_Sr_depth_110 rfl (nI_add _ _) ?_
              refine g_iadd (q := 112) hx d_Sr_depth_111 rfl (nI_add _ _) ?_
              refine g_istore_n (q := 113) (lc' := [(3, _), (2, _), (0, _), (1, _)]) hx d_Sr_depth_112 rfl (by decide) rfl ?_
              refine g_goto (q := 29) hx d_Sr_depth_113 rfl ?_
              have e8 : mBeg arch size i + (5 + mRlen arch size (mBeg arch size i)) = mBeg arch size (i + 1) := by simp only [mBeg]; omega
              rw [e8]
              refine z_perm (lc' := [(3, .int (nI (mBeg arch size (i + 1)))), (2, .int (nI (cnt + mOv (mAt rs) p rs.length))), (0, .ref x), (1, .int (nI p))]) (fun q hq => by simp only [List.mem_cons, List.not_mem_nil, or_false] at hq ⊢; rcases hq with h | h | h | h <;> simp [h]) ?_
              exact ih (i + 1) M3 (by omega) (cnt + mOv (mAt rs) p rs.length) (by omega) (by omega) (by rw [← e8]; omega) t13 hI3 hT
            · exact absurd h76 (by omega)
          · rw [e9] at hT
            dsimp only at hT
            refine g_if_ne (q := 79) (t := 89) hx d_Sr_depth_76 rfl rfl (zb_ne0 (by omega)) (fun h76 => ?_) (fun h76 => ?_)
            · exact absurd h76 (by omega)
            · exact g_thr (post := (fun M' => kX x M M' ∧ pI Γ M' x sh sp len c g k size ref arch fs hs ur)) (ik := 65) (is := 195) (ic := 69) hx htr hno d_Sr_depth_79 d_Sr_depth_82 d_Sr_depth_83 d_Sr_depth_85 d_Sr_depth_88 thr_IA zs_195 (by omega) (by decide) (by decide) (Nat.le_of_ble_eq_true rfl) ⟨t13, hI3⟩ hQ
        · exact absurd h50 (by omega)
  refine g_iload_n (q := 1) hx d_Sr_depth_0 rfl rfl ?_
  refine g_if_lt (q := 4) (t := 15) hx d_Sr_depth_1 rfl rfl (zb_lt0 (by omega)) (fun h1 => ?_) (fun h1 => ?_)
  · exact h1.elim
  · refine g_iload_n (q := 5) hx d_Sr_depth_4 rfl rfl ?_
    refine g_aload_n (q := 6) hx d_Sr_depth_5 rfl rfl ?_
    refine g_geto (q := 9) hx d_Sr_depth_6 rfl fl_Sr_12 h0 (q0 ()) (by first | exact Nat.succ_ne_zero _ | omega) ?_
    refine g_geti (q := 12) hx d_Sr_depth_9 rfl fl_Sr_81 hRs.1 hI.2.1.1 ?_
    refine g_icmp_lt (q := 15) (t := 25) hx d_Sr_depth_12 rfl rfl (nI_ltI (by omega) (by omega)) (fun h12 => ?_) (fun h12 => ?_)
    · refine g_iconst (q := 26) (v := nI 0) hx d_Sr_depth_25 rfl (by decide) ?_
      refine g_istore_n (q := 27) (lc' := [(2, _), (0, _), (1, _)]) hx d_Sr_depth_26 rfl (by decide) rfl ?_
      refine g_iconst (q := 28) (v := nI 0) hx d_Sr_depth_27 rfl (by decide) ?_
      refine g_istore_n (q := 29) (lc' := [(3, _), (2, _), (0, _), (1, _)]) hx d_Sr_depth_28 rfl (by decide) rfl ?_
      exact loop 0 _ 0 (by omega) (by omega) (by show 0 ≤ 3000; omega) kX.rf hI ht
    · exact absurd (by omega) h12
set_option maxHeartbeats 4000000 in
set_option maxRecDepth 100000 in
theorem c_Sr_depth0 (l : Launch) (E : zE) (Γ : zG) (n : Nat) (M : zM) (x sh sp : Nat) (len c g k size : Nat) (ref arch : Nat → Nat) (fs hs : Nat → mRd) (ur : mRd) (hI : pI Γ M x sh sp len c g k size ref arch fs hs ur) (p v9 : Nat) (hp : p < len) (ht : mDp ref len arch size p 500 0 0 = some v9) : zCt l E Y_Sr_depth 7 (0, 0) [.ref x, .int (nI p)] Γ n M (zPi Γ n (fun v M' => v = nI v9 ∧ kX x M M' ∧ pI Γ M' x sh sp len c g k size ref arch fs hs ur)) := by
  refine zCt.of [(0, .ref x), (1, .int (nI p))] (by decide) (Nat.le_of_ble_eq_true rfl) rfl (fun f hfl hx hQ => ?_)
  have h0 := hI.1.1.1
  have hx0 := hI.1.1.2
  have hsp := hI.1.2.2.1
  have hc24 := hI.2.2.1.2
  have hg1 := hI.2.2.2.2.1.2
  have hk3 := hI.2.2.2.2.2.2.1.2
  have hl160 := hI.2.1.2.2.1
  have hRs := hI.1.2.2.2.1
  have hF := hI.1.2.2.2.2.1
  have hf0 := hF.1
  have hf1 := hF.2.1
  have hA := hI.1.2.2.2.2.2.2.2.1
  have hcz := hI.2.2.1.1
  have hgz := hI.2.2.2.2.1.1
  have q0 : ∀ _ : Unit, zr M x 0 = x + 1 := fun _ => hI.1.2.1.1
  have q1 : ∀ _ : Unit, zr M x 1 = x + 3 := fun _ => hI.1.2.1.2.1
  have q4 : ∀ _ : Unit, zr M x 4 = sh := fun _ => hI.1.2.1.2.2.2.1
  have q5 : ∀ _ : Unit, zr M x 5 = sp := fun _ => hI.1.2.1.2.2.2.2.1
  have q6 : ∀ _ : Unit, zr M x 6 = x + 134 := fun _ => hI.1.2.1.2.2.2.2.2.1
  have f0 : ∀ _ : Unit, zr M (x + 3) 0 = x + 4 := fun _ => hF.2.2.1
  have fi : ∀ i, i < 25 → zr M (x + 4) i = x + 5 + 4 * i := fun i hi => (hF.2.2.2 i hi).1
  have fs9 : ∀ i, i < 25 → pSh Γ M.2.2 (x + 5 + 4 * i) := fun i hi => (hF.2.2.2 i hi).2
  have hs20 := hI.2.2.2.2.2.2.2.2.2.2.1
  have loop : ∀ (i : Nat) (M1 : zM), ∀ cnt : Nat, i ≤ 420 → cnt ≤ 3 * i → mBeg arch size i ≤ 3000 → kX x M M1 → pI Γ M1 x sh sp len c g k size ref arch fs hs ur → mDp ref len arch size p (500 - i) i cnt = some v9 → zGo f E Γ n (0, 0) M1 29 [(3, .int (nI (mBeg arch size i))), (2, .int (nI cnt)), (0, .ref x), (1, .int (nI p))] [] := by
    refine z_lp (fun i => 420 - i) _ ?_
    intro i M1 ih cnt hi hcn hb3 t1 hI1 hT
    have hi5 := mBeg_ge arch size i
    have q01 : ∀ _ : Unit, zr M1 x 0 = x + 1 := fun _ => hI1.1.2.1.1
    have q51 : ∀ _ : Unit, zr M1 x 5 = sp := fun _ => hI1.1.2.1.2.2.2.2.1
    have q61 : ∀ _ : Unit, zr M1 x 6 = x + 134 := fun _ => hI1.1.2.1.2.2.2.2.2.1
    have qA1 : ∀ _ : Unit, zr M1 (x + 134) 0 = x + 134 + 1 := fun _ => hI1.1.2.2.2.2.2.2.2.1.2.2.1
    refine g_iload_n (q := 30) hx d_Sr_depth_29 rfl rfl ?_
    refine g_aload_n (q := 31) hx d_Sr_depth_30 rfl rfl ?_
    refine g_geto (q := 34) hx d_Sr_depth_31 rfl fl_Sr_44 h0 (q61 ()) (by first | exact Nat.succ_ne_zero _ | omega) ?_
    refine g_geti (q := 37) hx d_Sr_depth_34 rfl fl_Sr_150 hA.1 hI1.2.2.2.2.2.2.2.2.1 ?_
    refine g_icmp_ge (q := 40) (t := 116) hx d_Sr_depth_37 rfl rfl (nI_leI (by omega) (by omega)) (fun h37 => ?_) (fun h37 => ?_)
    · rw [show 500 - i = (500 - (i + 1)) + 1 by omega] at hT
      simp only [mDp] at hT
      rw [if_pos (by omega)] at hT
      obtain rfl := Option.some.inj hT
      refine g_iload_n (q := 117) hx d_Sr_depth_116 rfl rfl ?_
      exact g_iret hx d_Sr_depth_117 rfl hQ ⟨Nat.le_refl _, Nat.le_refl _⟩ ⟨_, rfl, rfl, rfl, rfl, t1, hI1⟩
    · rw [show 500 - i = (500 - (i + 1)) + 1 by omega] at hT
      simp only [mDp] at hT
      rw [if_neg (by omega)] at hT
      refine g_aload_n (q := 41) hx d_Sr_depth_40 rfl rfl ?_
      refine g_geto (q := 44) hx d_Sr_depth_41 rfl fl_Sr_44 h0 (q61 ()) (by first | exact Nat.succ_ne_zero _ | omega) ?_
      refine g_iload_n (q := 45) hx d_Sr_depth_44 rfl rfl ?_
      refine g_iconst (q := 46) (v := nI 1) hx d_Sr_depth_45 rfl (by decide) ?_
      refine g_iadd (q := 47) hx d_Sr_depth_46 rfl (nI_add _ _) ?_
      refine g_ci (q := 50) (zrunV hx d_Sr_depth_47 lk_Sr_174 rfl rfl hA.1 rfl rfl (Nat.le_of_ble_eq_true rfl) (by decide) (by omega) (by omega) (c_Ar_hasN _ E Γ n _ (x + 134) size (mBeg arch size i + 1) hA.1 hI1.2.2.2.2.2.2.2.2.1 hs20 (by omega))) rfl (fun r47 M2 p47 => ?_)
      obtain ⟨e47, p47⟩ := p47
      subst M2
      rcases p47 with ⟨rfl, hz⟩ | ⟨rfl, hz⟩
      · refine g_if_eq (q := 53) (t := 71) hx d_Sr_depth_50 rfl rfl (zb_eq0 (by omega)) (fun h50 => ?_) (fun h50 => ?_)
        · exact absurd h50 (by omega)
        · have ha9 := hI1.2.2.2.2.2.2.2.2.2.2.2 (mBeg arch size i + 1)
          refine g_aload_n (q := 54) hx d_Sr_depth_53 rfl rfl ?_
          refine g_geto (q := 57) hx d_Sr_depth_54 rfl fl_Sr_44 h0 (q61 ()) (by first | exact Nat.succ_ne_zero _ | omega) ?_
          refine g_geta (q := 60) hx d_Sr_depth_57 rfl fl_Sr_177 hA.1 (qA1 ()) (by first | exact Nat.succ_ne_zero _ | omega) ?_
          refine g_iload_n (q := 61) hx d_Sr_depth_60 rfl rfl ?_
          refine g_iconst (q := 62) (v := nI 1) hx d_Sr_depth_61 rfl (by decide) ?_
          refine g_iadd (q := 63) hx d_Sr_depth_62 rfl (nI_add _ _) ?_
          refine g_iald (q := 64) hx d_Sr_depth_63 rfl hA.2.1 rfl (by omega) (by decide) (hI1.2.2.2.2.2.2.2.2.2.1 (mBeg arch size i + 1) (by omega)) ?_
          refine g_iload_n (q := 65) hx d_Sr_depth_64 rfl rfl ?_
          refine g_icmp_le (q := 68) (t := 71) hx d_Sr_depth_65 rfl rfl (nI_leI (by omega) (by omega)) (fun h65 => ?_) (fun h65 => ?_)
          · rw [if_neg (by omega)] at hT
            refine g_aload_n (q := 72) hx d_Sr_depth_71 rfl rfl ?_
            refine g_iload_n (q := 73) hx d_Sr_depth_72 rfl rfl ?_
            refine g_ci (q := 76) (zrunV hx d_Sr_depth_73 lk_Sr_188 rfl rfl h0 rfl rfl (Nat.le_of_ble_eq_true rfl) (by decide) (by omega) (by omega) (c_Sr_readsSoundly _ E Γ n _ x (x + 1) sp (x + 134) (x + 136) (x + 139) len size (mBeg arch size i) ref arch h0 (q01 ()) (q51 ()) (q61 ()) hI1.1.2.1.2.2.2.2.2.2.1 hI1.1.2.1.2.2.2.2.2.2.2 (by omega) hI1.1.2.2.2.1 hI1.2.1 hI1.1.2.2.2.2.2.2.1.2 hI1.1.2.2.2.2.2.2.2.1 hI1.2.2.2.2.2.2.2.2 hI1.1.2.2.2.2.2.2.2.2.1 hI1.1.2.2.2.2.2.2.2.2.2 (by omega))) rfl (fun r73 M3 p73 => ?_)
            obtain ⟨z3, p73⟩ := p73
            have hI3 := sound_keeps hI1 z3
            have t13 := t1.tr (kX.om z3 (fun a q => by unfold sSd at q; omega))
            rcases p73 with ⟨rfl, rs, e9, h9, h8⟩ | ⟨rfl, e9⟩
            · rw [e9] at hT
              dsimp only at hT
              have hle := mTake_len e9
              have q53 : ∀ _ : Unit, zr M3 x 5 = sp := fun _ => hI3.1.2.1.2.2.2.2.1
              have q63 : ∀ _ : Unit, zr M3 x 6 = x + 134 := fun _ => hI3.1.2.1.2.2.2.2.2.1
              refine g_if_ne (q := 79) (t := 89) hx d_Sr_depth_76 rfl rfl (zb_ne0 (by omega)) (fun h76 => ?_) (fun h76 => ?_)
              · refine g_iload_n (q := 90) hx d_Sr_depth_89 rfl rfl ?_
                refine g_aload_n (q := 91) hx d_Sr_depth_90 rfl rfl ?_
                refine g_geto (q := 94) hx d_Sr_depth_91 rfl fl_Sr_38 h0 (q53 ()) (by first | exact Nat.succ_ne_zero _ | omega) ?_
                refine g_iload_n (q := 95) hx d_Sr_depth_94 rfl rfl ?_
                refine g_ci (q := 98) (zrunV hx d_Sr_depth_95 lk_Sr_197 rfl rfl hI3.1.2.2.2.2.2.2.1.2.1 rfl rfl (Nat.le_of_ble_eq_true rfl) (by decide) (by omega) (by omega) (c_Rr_countOver _ E Γ n _ sp (sp + 1) 3 rs.length p (fun j => sp + 2 + 4 * j) (mAt rs) hI3.1.2.2.2.2.2.2.1.2.1 hI3.1.2.2.2.2.2.2.1.2.2.2.1 (by omega) hI3.1.2.2.2.2.2.2.1.2.2.1 (by decide) h9 hle.2 (by omega) (fun j hj => ⟨(hI3.1.2.2.2.2.2.2.1.2.2.2.2 j (by omega)).1, by show 0 < sp + 2 + 4 * j; omega, (hI3.1.2.2.2.2.2.2.1.2.2.2.2 j (by omega)).2.1.1, (h8 j hj).1.1.1, (h8 j hj).1.1.2.2.2.1, by have := mPs_fit (h8 j hj).1.2.2; omega⟩))) rfl (fun r95 M4 p95 => ?_)
                obtain ⟨rfl, e95⟩ := p95
                subst M4
                have hov := mOv_le (mAt rs) p rs.length
                refine g_iadd (q := 99) hx d_Sr_depth_98 rfl (nI_add _ _) ?_
                refine g_istore_n (q := 100) (lc' := [(2, _), (3, _), (0, _), (1, _)]) hx d_Sr_depth_99 rfl (by decide) rfl ?_
                refine g_iload_n (q := 101) hx d_Sr_depth_100 rfl rfl ?_
                refine g_iconst (q := 102) (v := nI 5) hx d_Sr_depth_101 rfl (by decide) ?_
                refine g_aload_n (q := 103) hx d_Sr_depth_102 rfl rfl ?_
                refine g_geto (q := 106) hx d_Sr_depth_103 rfl fl_Sr_44 h0 (q63 ()) (by first | exact Nat.succ_ne_zero _ | omega) ?_
                refine g_iload_n (q := 107) hx d_Sr_depth_106 rfl rfl ?_
                refine g_ci (q := 110) (zrunV hx d_Sr_depth_107 lk_Sr_200 rfl rfl hA.1 rfl rfl (Nat.le_of_ble_eq_true rfl) (by decide) (by omega) (by omega) (c_Ar_rowLength _ E Γ n _ (x + 134) size arch (mBeg arch size i) hI3.1.2.2.2.2.2.2.2.1 hI3.2.2.2.2.2.2.2.2 (by omega))) rfl (fun r107 M5 p107 => ?_)
                obtain ⟨rfl, e107⟩ := p107
                subst M5
                have hrl9 := mRlen_lt hI.2.2.2.2.2.2.2.2.2.2.2 size (mBeg arch size i)
                refine g_iadd (q := 111) hx d_Sr_depth_110 rfl (nI_add _ _) ?_
                refine g_iadd (q := 112) hx d_Sr_depth_111 rfl (nI_add _ _) ?_
                refine g_istore_n (q := 113) (lc' := [(3, _), (2, _), (0, _), (1, _)]) hx d_Sr_depth_112 rfl (by decide) rfl ?_
                refine g_goto (q := 29) hx d_Sr_depth_113 rfl ?_
                have e8 : mBeg arch size i + (5 + mRlen arch size (mBeg arch size i)) = mBeg arch size (i + 1) := by simp only [mBeg]; omega
                rw [e8]
                refine z_perm (lc' := [(3, .int (nI (mBeg arch size (i + 1)))), (2, .int (nI (cnt + mOv (mAt rs) p rs.length))), (0, .ref x), (1, .int (nI p))]) (fun q hq => by simp only [List.mem_cons, List.not_mem_nil, or_false] at hq ⊢; rcases hq with h | h | h | h <;> simp [h]) ?_
                exact ih (i + 1) M3 (by omega) (cnt + mOv (mAt rs) p rs.length) (by omega) (by omega) (by rw [← e8]; omega) t13 hI3 hT
              · exact absurd h76 (by omega)
            · rw [e9] at hT
              dsimp only at hT
              refine g_if_ne (q := 79) (t := 89) hx d_Sr_depth_76 rfl rfl (zb_ne0 (by omega)) (fun h76 => ?_) (fun h76 => ?_)
              · exact absurd h76 (by omega)
              · exact (nomatch hT)
          · refine g_goto (q := 116) hx d_Sr_depth_68 rfl ?_
            rw [if_pos (by omega)] at hT
            obtain rfl := Option.some.inj hT
            refine g_iload_n (q := 117) hx d_Sr_depth_116 rfl rfl ?_
            exact g_iret hx d_Sr_depth_117 rfl hQ ⟨Nat.le_refl _, Nat.le_refl _⟩ ⟨_, rfl, rfl, rfl, rfl, t1, hI1⟩
      · refine g_if_eq (q := 53) (t := 71) hx d_Sr_depth_50 rfl rfl (zb_eq0 (by omega)) (fun h50 => ?_) (fun h50 => ?_)
        · rw [if_neg (by omega)] at hT
          refine g_aload_n (q := 72) hx d_Sr_depth_71 rfl rfl ?_
          refine g_iload_n (q := 73) hx d_Sr_depth_72 rfl rfl ?_
          refine g_ci (q := 76) (zrunV hx d_Sr_depth_73 lk_Sr_188 rfl rfl h0 rfl rfl (Nat.le_of_ble_eq_true rfl) (by decide) (by omega) (by omega) (c_Sr_readsSoundly _ E Γ n _ x (x + 1) sp (x + 134) (x + 136) (x + 139) len size (mBeg arch size i) ref arch h0 (q01 ()) (q51 ()) (q61 ()) hI1.1.2.1.2.2.2.2.2.2.1 hI1.1.2.1.2.2.2.2.2.2.2 (by omega) hI1.1.2.2.2.1 hI1.2.1 hI1.1.2.2.2.2.2.2.1.2 hI1.1.2.2.2.2.2.2.2.1 hI1.2.2.2.2.2.2.2.2 hI1.1.2.2.2.2.2.2.2.2.1 hI1.1.2.2.2.2.2.2.2.2.2 (by omega))) rfl (fun r73 M3 p73 => ?_)
          obtain ⟨z3, p73⟩ := p73
          have hI3 := sound_keeps hI1 z3
          have t13 := t1.tr (kX.om z3 (fun a q => by unfold sSd at q; omega))
          rcases p73 with ⟨rfl, rs, e9, h9, h8⟩ | ⟨rfl, e9⟩
          · rw [e9] at hT
            dsimp only at hT
            have hle := mTake_len e9
            have q53 : ∀ _ : Unit, zr M3 x 5 = sp := fun _ => hI3.1.2.1.2.2.2.2.1
            have q63 : ∀ _ : Unit, zr M3 x 6 = x + 134 := fun _ => hI3.1.2.1.2.2.2.2.2.1
            refine g_if_ne (q := 79) (t := 89) hx d_Sr_depth_76 rfl rfl (zb_ne0 (by omega)) (fun h76 => ?_) (fun h76 => ?_)
            · refine g_iload_n (q := 90) hx d_Sr_depth_89 rfl rfl ?_
              refine g_aload_n (q := 91) hx d_Sr_depth_90 rfl rfl ?_
              refine g_geto (q := 94) hx d_Sr_depth_91 rfl fl_Sr_38 h0 (q53 ()) (by first | exact Nat.succ_ne_zero _ | omega) ?_
              refine g_iload_n (q := 95) hx d_Sr_depth_94 rfl rfl ?_
              refine g_ci (q := 98) (zrunV hx d_Sr_depth_95 lk_Sr_197 rfl rfl hI3.1.2.2.2.2.2.2.1.2.1 rfl rfl (Nat.le_of_ble_eq_true rfl) (by decide) (by omega) (by omega) (c_Rr_countOver _ E Γ n _ sp (sp + 1) 3 rs.length p (fun j => sp + 2 + 4 * j) (mAt rs) hI3.1.2.2.2.2.2.2.1.2.1 hI3.1.2.2.2.2.2.2.1.2.2.2.1 (by omega) hI3.1.2.2.2.2.2.2.1.2.2.1 (by decide) h9 hle.2 (by omega) (fun j hj => ⟨(hI3.1.2.2.2.2.2.2.1.2.2.2.2 j (by omega)).1, by show 0 < sp + 2 + 4 * j; omega, (hI3.1.2.2.2.2.2.2.1.2.2.2.2 j (by omega)).2.1.1, (h8 j hj).1.1.1, (h8 j hj).1.1.2.2.2.1, by have := mPs_fit (h8 j hj).1.2.2; omega⟩))) rfl (fun r95 M4 p95 => ?_)
              obtain ⟨rfl, e95⟩ := p95
              subst M4
              have hov := mOv_le (mAt rs) p rs.length
              refine g_iadd (q := 99) hx d_Sr_depth_98 rfl (nI_add _ _) ?_
              refine g_istore_n (q := 100) (lc' := [(2, _), (3, _), (0, _), (1, _)]) hx d_Sr_depth_99 rfl (by decide) rfl ?_
              refine g_iload_n (q := 101) hx d_Sr_depth_100 rfl rfl ?_
              refine g_iconst (q := 102) (v := nI 5) hx d_Sr_depth_101 rfl (by decide) ?_
              refine g_aload_n (q := 103) hx d_Sr_depth_102 rfl rfl ?_
              refine g_geto (q := 106) hx d_Sr_depth_103 rfl fl_Sr_44 h0 (q63 ()) (by first | exact Nat.succ_ne_zero _ | omega) ?_
              refine g_iload_n (q := 107) hx d_Sr_depth_106 rfl rfl ?_
              refine g_ci (q := 110) (zrunV hx d_Sr_depth_107 lk_Sr_200 rfl rfl hA.1 rfl rfl (Nat.le_of_ble_eq_true rfl) (by decide) (by omega) (by omega) (c_Ar_rowLength _ E Γ n _ (x + 134) size arch (mBeg arch size i) hI3.1.2.2.2.2.2.2.2.1 hI3.2.2.2.2.2.2.2.2 (by omega))) rfl (fun r107 M5 p107 => ?_)
              obtain ⟨rfl, e107⟩ := p107
              subst M5
              have hrl9 := mRlen_lt hI.2.2.2.2.2.2.2.2.2.2.2 size (mBeg arch size i)
              refine g_iadd (q := 111) hx d_Sr_depth_110 rfl (nI_add _ _) ?_
              refine g_iadd (q := 112) hx d_Sr_depth_111 rfl (nI_add _ _) ?_
              refine g_istore_n (q := 113) (lc' := [(3, _), (2, _), (0, _), (1, _)]) hx d_Sr_depth_112 rfl (by decide) rfl ?_
              refine g_goto (q := 29) hx d_Sr_depth_113 rfl ?_
              have e8 : mBeg arch size i + (5 + mRlen arch size (mBeg arch size i)) = mBeg arch size (i + 1) := by simp only [mBeg]; omega
              rw [e8]
              refine z_perm (lc' := [(3, .int (nI (mBeg arch size (i + 1)))), (2, .int (nI (cnt + mOv (mAt rs) p rs.length))), (0, .ref x), (1, .int (nI p))]) (fun q hq => by simp only [List.mem_cons, List.not_mem_nil, or_false] at hq ⊢; rcases hq with h | h | h | h <;> simp [h]) ?_
              exact ih (i + 1) M3 (by omega) (cnt + mOv (mAt rs) p rs.length) (by omega) (by omega) (by rw [← e8]; omega) t13 hI3 hT
            · exact absurd h76 (by omega)
          · rw [e9] at hT
            dsimp only at hT
            refine g_if_ne (q := 79) (t := 89) hx d_Sr_depth_76 rfl rfl (zb_ne0 (by omega)) (fun h76 => ?_) (fun h76 => ?_)
            · exact absurd h76 (by omega)
            · exact (nomatch hT)
        · exact absurd h50 (by omega)
  refine g_iload_n (q := 1) hx d_Sr_depth_0 rfl rfl ?_
  refine g_if_lt (q := 4) (t := 15) hx d_Sr_depth_1 rfl rfl (zb_lt0 (by omega)) (fun h1 => ?_) (fun h1 => ?_)
  · exact h1.elim
  · refine g_iload_n (q := 5) hx d_Sr_depth_4 rfl rfl ?_
    refine g_aload_n (q := 6) hx d_Sr_depth_5 rfl rfl ?_
    refine g_geto (q := 9) hx d_Sr_depth_6 rfl fl_Sr_12 h0 (q0 ()) (by first | exact Nat.succ_ne_zero _ | omega) ?_
    refine g_geti (q := 12) hx d_Sr_depth_9 rfl fl_Sr_81 hRs.1 hI.2.1.1 ?_
    refine g_icmp_lt (q := 15) (t := 25) hx d_Sr_depth_12 rfl rfl (nI_ltI (by omega) (by omega)) (fun h12 => ?_) (fun h12 => ?_)
    · refine g_iconst (q := 26) (v := nI 0) hx d_Sr_depth_25 rfl (by decide) ?_
      refine g_istore_n (q := 27) (lc' := [(2, _), (0, _), (1, _)]) hx d_Sr_depth_26 rfl (by decide) rfl ?_
      refine g_iconst (q := 28) (v := nI 0) hx d_Sr_depth_27 rfl (by decide) ?_
      refine g_istore_n (q := 29) (lc' := [(3, _), (2, _), (0, _), (1, _)]) hx d_Sr_depth_28 rfl (by decide) rfl ?_
      exact loop 0 _ 0 (by omega) (by omega) (by show 0 ≤ 3000; omega) kX.rf hI ht
    · exact absurd (by omega) h12
