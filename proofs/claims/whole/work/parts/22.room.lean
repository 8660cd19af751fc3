set_option maxHeartbeats 4000000 in
set_option maxRecDepth 100000 in
/-- lengthensLast(kind) -/
theorem c_Rd_lengthensLast (l : Launch) (E : zE) (Γ : zG) (n : Nat) (M : zM) (a : Nat) (es : List (Nat × Nat)) (x : Int32) (hs : pSh Γ M.2.2 a) (q2 : zi M a 4 = nI es.length) (q5 : ∀ j, j < es.length → zi M (a + 1) j = nI (mK es j)) (h12 : es.length ≤ 12) :
    zCt l E Y_Rd_lengthensLast 0 (0, 0) [.ref a, .int x] Γ n M (zPi Γ n (fun v M' => M' = M ∧ (v = nI 1 ∧ zLen es x ∨ v = nI 0 ∧ ¬ zLen es x))) := by
  refine zCt.of [(0, .ref a), (1, .int x)] (by decide) (Nat.le_of_ble_eq_true rfl) rfl (fun f hfl hx hQ => ?_)
  obtain ⟨⟨ha, ha1, ha2, ha3⟩, p0, p1, p2, ha0⟩ := hs
  have p0 : zr M a 0 = a + 1 := p0
  have p1 : zr M a 1 = a + 2 := p1
  have p2 : zr M a 2 = a + 3 := p2
  refine g_iload_n (q := 1) hx d_Rd_lengthensLast_0 rfl rfl ?_
  refine g_if_eq (q := 4) (t := 9) hx d_Rd_lengthensLast_1 rfl rfl (z_x0 x) (fun h1 => ?_) (fun h1 => ?_)
  · refine g_aload_n (q := 10) hx d_Rd_lengthensLast_9 rfl rfl ?_
    refine g_geti (q := 13) hx d_Rd_lengthensLast_10 rfl fl_Rd_25 (by assumption) (by assumption) ?_
    refine g_if_le (q := 16) (t := 35) hx d_Rd_lengthensLast_13 rfl rfl (zb_le0 (by omega)) (fun h13 => ?_) (fun h13 => ?_)
    · refine g_iconst (q := 36) (v := nI 0) hx d_Rd_lengthensLast_35 rfl (by decide) ?_
      exact g_zret hx d_Rd_lengthensLast_36 rfl (by decide) hQ ⟨Nat.le_refl _, Nat.le_refl _⟩ ⟨_, rfl, rfl, rfl, rfl, Or.inr ⟨rfl, fun hz => by obtain ⟨z1, z2, z3⟩ := hz; omega⟩⟩
    · refine g_aload_n (q := 17) hx d_Rd_lengthensLast_16 rfl rfl ?_
      refine g_geta (q := 20) hx d_Rd_lengthensLast_17 rfl fl_Rd_9 (by assumption) (by assumption) (by omega) ?_
      refine g_aload_n (q := 21) hx d_Rd_lengthensLast_20 rfl rfl ?_
      refine g_geti (q := 24) hx d_Rd_lengthensLast_21 rfl fl_Rd_25 (by assumption) (by assumption) ?_
      refine g_iconst (q := 25) (v := nI 1) hx d_Rd_lengthensLast_24 rfl (by decide) ?_
      refine g_isub (q := 26) hx d_Rd_lengthensLast_25 rfl (pk_sub (by omega)) ?_
      refine g_iald (q := 27) hx d_Rd_lengthensLast_26 rfl (by assumption) rfl (by omega) (by decide) (q5 _ (by omega)) ?_
      refine g_iload_n (q := 28) hx d_Rd_lengthensLast_27 rfl rfl ?_
      refine g_icmp_ne (q := 31) (t := 35) hx d_Rd_lengthensLast_28 rfl rfl Iff.rfl (fun h28 => ?_) (fun h28 => ?_)
      · refine g_iconst (q := 36) (v := nI 0) hx d_Rd_lengthensLast_35 rfl (by decide) ?_
        exact g_zret hx d_Rd_lengthensLast_36 rfl (by decide) hQ ⟨Nat.le_refl _, Nat.le_refl _⟩ ⟨_, rfl, rfl, rfl, rfl, Or.inr ⟨rfl, fun hz => by obtain ⟨z1, z2, z3⟩ := hz; exact h28 z3.symm⟩⟩
      · refine g_iconst (q := 32) (v := nI 1) hx d_Rd_lengthensLast_31 rfl (by decide) ?_
        refine g_goto (q := 36) hx d_Rd_lengthensLast_32 rfl ?_
        exact g_zret hx d_Rd_lengthensLast_36 rfl (by decide) hQ ⟨Nat.le_refl _, Nat.le_refl _⟩ ⟨_, rfl, rfl, rfl, rfl, Or.inl ⟨rfl, by first | exact Or.inl h1 | exact Or.inr (Classical.not_not.mp h6), by omega, (Classical.not_not.mp h28).symm⟩⟩
  · refine g_iload_n (q := 5) hx d_Rd_lengthensLast_4 rfl rfl ?_
    refine g_iconst (q := 6) (v := nI 3) hx d_Rd_lengthensLast_5 rfl (by decide) ?_
    refine g_icmp_ne (q := 9) (t := 35) hx d_Rd_lengthensLast_6 rfl rfl Iff.rfl (fun h6 => ?_) (fun h6 => ?_)
    · refine g_iconst (q := 36) (v := nI 0) hx d_Rd_lengthensLast_35 rfl (by decide) ?_
      exact g_zret hx d_Rd_lengthensLast_36 rfl (by decide) hQ ⟨Nat.le_refl _, Nat.le_refl _⟩ ⟨_, rfl, rfl, rfl, rfl, Or.inr ⟨rfl, fun hz => by obtain ⟨z1, z2, z3⟩ := hz; exact z1.elim h1 h6⟩⟩
    · refine g_aload_n (q := 10) hx d_Rd_lengthensLast_9 rfl rfl ?_
      refine g_geti (q := 13) hx d_Rd_lengthensLast_10 rfl fl_Rd_25 (by assumption) (by assumption) ?_
      refine g_if_le (q := 16) (t := 35) hx d_Rd_lengthensLast_13 rfl rfl (zb_le0 (by omega)) (fun h13 => ?_) (fun h13 => ?_)
      · refine g_iconst (q := 36) (v := nI 0) hx d_Rd_lengthensLast_35 rfl (by decide) ?_
        exact g_zret hx d_Rd_lengthensLast_36 rfl (by decide) hQ ⟨Nat.le_refl _, Nat.le_refl _⟩ ⟨_, rfl, rfl, rfl, rfl, Or.inr ⟨rfl, fun hz => by obtain ⟨z1, z2, z3⟩ := hz; omega⟩⟩
      · refine g_aload_n (q := 17) hx d_Rd_lengthensLast_16 rfl rfl ?_
        refine g_geta (q := 20) hx d_Rd_lengthensLast_17 rfl fl_Rd_9 (by assumption) (by assumption) (by omega) ?_
        refine g_aload_n (q := 21) hx d_Rd_lengthensLast_20 rfl rfl ?_
        refine g_geti (q := 24) hx d_Rd_lengthensLast_21 rfl fl_Rd_25 (by assumption) (by assumption) ?_
        refine g_iconst (q := 25) (v := nI 1) hx d_Rd_lengthensLast_24 rfl (by decide) ?_
        refine g_isub (q := 26) hx d_Rd_lengthensLast_25 rfl (pk_sub (by omega)) ?_
        refine g_iald (q := 27) hx d_Rd_lengthensLast_26 rfl (by assumption) rfl (by omega) (by decide) (q5 _ (by omega)) ?_
        refine g_iload_n (q := 28) hx d_Rd_lengthensLast_27 rfl rfl ?_
        refine g_icmp_ne (q := 31) (t := 35) hx d_Rd_lengthensLast_28 rfl rfl Iff.rfl (fun h28 => ?_) (fun h28 => ?_)
        · refine g_iconst (q := 36) (v := nI 0) hx d_Rd_lengthensLast_35 rfl (by decide) ?_
          exact g_zret hx d_Rd_lengthensLast_36 rfl (by decide) hQ ⟨Nat.le_refl _, Nat.le_refl _⟩ ⟨_, rfl, rfl, rfl, rfl, Or.inr ⟨rfl, fun hz => by obtain ⟨z1, z2, z3⟩ := hz; exact h28 z3.symm⟩⟩
        · refine g_iconst (q := 32) (v := nI 1) hx d_Rd_lengthensLast_31 rfl (by decide) ?_
          refine g_goto (q := 36) hx d_Rd_lengthensLast_32 rfl ?_
          exact g_zret hx d_Rd_lengthensLast_36 rfl (by decide) hQ ⟨Nat.le_refl _, Nat.le_refl _⟩ ⟨_, rfl, rfl, rfl, rfl, Or.inl ⟨rfl, by first | exact Or.inl h1 | exact Or.inr (Classical.not_not.mp h6), by omega, (Classical.not_not.mp h28).symm⟩⟩
set_option maxHeartbeats 4000000 in
set_option maxRecDepth 100000 in
/-- hasRoom(kind, number), of an edit that fits -/
theorem c_Rd_hasRoom (l : Launch) (E : zE) (Γ : zG) (n : Nat) (M : zM) (a : Nat) (rd : mRd) (k m : Nat) (hs : pSh Γ M.2.2 a) (hd : pRd M a rd) (h12 : rd.2.length ≤ 12) (h20 : mBc rd.2 ≤ 20) (hk : k < 4) (hm : m ≤ 1024) (hks : mKs rd.2) :
    zCt l E Y_Rd_hasRoom 1 (0, 0) [.ref a, .int (nI k), .int (nI m)] Γ n M (zPi Γ n (fun v M' => M' = M ∧ (v = nI 1 ∧ mRoom rd.2 (k, m) ∨ v = nI 0 ∧ ¬ mRoom rd.2 (k, m)))) := by
  refine zCt.of [(0, .ref a), (1, .int (nI k)), (2, .int (nI m))] (by decide) (Nat.le_of_ble_eq_true rfl) rfl (fun f hfl hx hQ => ?_)
  have hs0 := hs
  have hd0 := hd
  obtain ⟨⟨ha, ha1, ha2, ha3⟩, p0, p1, p2, ha0⟩ := hs
  have p0 : zr M a 0 = a + 1 := p0
  have p1 : zr M a 1 = a + 2 := p1
  have p2 : zr M a 2 = a + 3 := p2
  obtain ⟨q1, q2, q3, q4, q5⟩ := hd
  refine g_iload_n (q := 1) hx d_Rd_hasRoom_0 rfl rfl ?_
  refine g_if_ne (q := 4) (t := 8) hx d_Rd_hasRoom_1 rfl rfl (zb_ne0 (by omega)) (fun h1 => ?_) (fun h1 => ?_)
  · refine g_iload_n (q := 9) hx d_Rd_hasRoom_8 rfl rfl ?_
    refine g_iconst (q := 10) (v := nI 3) hx d_Rd_hasRoom_9 rfl (by decide) ?_
    refine g_icmp_ne (q := 13) (t := 17) hx d_Rd_hasRoom_10 rfl rfl (not_congr (nI_eq (by omega) (by omega))) (fun h10 => ?_) (fun h10 => ?_)
    · refine g_iconst (q := 18) (v := nI 1) hx d_Rd_hasRoom_17 rfl (by decide) ?_
      refine g_istore_n (q := 19) (lc' := [(3, _), (0, _), (1, _), (2, _)]) hx d_Rd_hasRoom_18 rfl (by decide) rfl ?_
      refine g_aload_n (q := 20) hx d_Rd_hasRoom_19 rfl rfl ?_
      refine g_iload_n (q := 21) hx d_Rd_hasRoom_20 rfl rfl ?_
      refine g_ci (q := 24) (zrunV hx d_Rd_hasRoom_21 lk_Rd_48 rfl rfl (by assumption) rfl rfl (Nat.le_of_ble_eq_true rfl) (by decide) (by omega) (by omega) (c_Rd_lengthensLast _ E Γ n _ a rd.2 (nI k) hs0 q2 (fun j hj => (q5 j hj).1) h12)) rfl (fun r21 M21 p21 => ?_)
      obtain ⟨rfl, p21⟩ := p21
      rcases p21 with ⟨rfl, hz⟩ | ⟨rfl, hz⟩ <;> rw [zLen_iff hk hks] at hz
      · refine g_if_eq (q := 27) (t := 31) hx d_Rd_hasRoom_24 rfl rfl (zb_eq0 (by omega)) (fun h24 => ?_) (fun h24 => ?_)
        · exact absurd h24 (by omega)
        · refine g_iconst (q := 28) (v := nI 0) hx d_Rd_hasRoom_27 rfl (by decide) ?_
          refine g_goto (q := 32) hx d_Rd_hasRoom_28 rfl ?_
          refine g_istore (q := 34) (lc' := [(4, _), (3, _), (0, _), (1, _), (2, _)]) hx d_Rd_hasRoom_32 rfl (by decide) rfl ?_
          refine g_aload_n (q := 35) hx d_Rd_hasRoom_34 rfl rfl ?_
          refine g_geti (q := 38) hx d_Rd_hasRoom_35 rfl fl_Rd_28 (by assumption) (by assumption) ?_
          refine g_iload_n (q := 39) hx d_Rd_hasRoom_38 rfl rfl ?_
          refine g_iadd (q := 40) hx d_Rd_hasRoom_39 rfl (nI_add _ _) ?_
          refine g_bipush (q := 42) (v := nI 20) hx d_Rd_hasRoom_40 rfl (by decide) ?_
          refine g_icmp_gt (q := 45) (t := 61) hx d_Rd_hasRoom_42 rfl rfl (nI_ltI (by omega) (by omega)) (fun h42 => ?_) (fun h42 => ?_)
          · refine g_iconst (q := 62) (v := nI 0) hx d_Rd_hasRoom_61 rfl (by decide) ?_
            exact g_zret hx d_Rd_hasRoom_62 rfl (by decide) hQ ⟨Nat.le_refl _, Nat.le_refl _⟩ ⟨_, rfl, rfl, rfl, rfl, by unfold mRoom mCnt; dsimp only; first | (refine Or.inl ⟨rfl, ?_, ?_⟩ <;> first | omega | (split <;> (try split) <;> omega) | (exact Or.inl hz) | (right; omega)) | (refine Or.inr ⟨rfl, fun hq => ?_⟩; obtain ⟨z1, z2⟩ := hq; first | (rcases z2 with z2 | z2 <;> first | (exact hz z2) | omega | (split at z1 <;> (try split at z1) <;> omega)) | (split at z1 <;> (try split at z1) <;> omega))⟩
          · refine g_aload_n (q := 46) hx d_Rd_hasRoom_45 rfl rfl ?_
            refine g_geti (q := 49) hx d_Rd_hasRoom_46 rfl fl_Rd_25 (by assumption) (by assumption) ?_
            refine g_iload (q := 51) hx d_Rd_hasRoom_49 rfl rfl ?_
            refine g_iadd (q := 52) hx d_Rd_hasRoom_51 rfl (nI_add _ _) ?_
            refine g_bipush (q := 54) (v := nI 12) hx d_Rd_hasRoom_52 rfl (by decide) ?_
            refine g_icmp_gt (q := 57) (t := 61) hx d_Rd_hasRoom_54 rfl rfl (nI_ltI (by omega) (by omega)) (fun h54 => ?_) (fun h54 => ?_)
            · refine g_iconst (q := 62) (v := nI 0) hx d_Rd_hasRoom_61 rfl (by decide) ?_
              exact g_zret hx d_Rd_hasRoom_62 rfl (by decide) hQ ⟨Nat.le_refl _, Nat.le_refl _⟩ ⟨_, rfl, rfl, rfl, rfl, by unfold mRoom mCnt; dsimp only; first | (refine Or.inl ⟨rfl, ?_, ?_⟩ <;> first | omega | (split <;> (try split) <;> omega) | (exact Or.inl hz) | (right; omega)) | (refine Or.inr ⟨rfl, fun hq => ?_⟩; obtain ⟨z1, z2⟩ := hq; first | (rcases z2 with z2 | z2 <;> first | (exact hz z2) | omega | (split at z1 <;> (try split at z1) <;> omega)) | (split at z1 <;> (try split at z1) <;> omega))⟩
            · refine g_iconst (q := 58) (v := nI 1) hx d_Rd_hasRoom_57 rfl (by decide) ?_
              refine g_goto (q := 62) hx d_Rd_hasRoom_58 rfl ?_
              exact g_zret hx d_Rd_hasRoom_62 rfl (by decide) hQ ⟨Nat.le_refl _, Nat.le_refl _⟩ ⟨_, rfl, rfl, rfl, rfl, by unfold mRoom mCnt; dsimp only; first | (refine Or.inl ⟨rfl, ?_, ?_⟩ <;> first | omega | (split <;> (try split) <;> omega) | (exact Or.inl hz) | (right; omega)) | (refine Or.inr ⟨rfl, fun hq => ?_⟩; obtain ⟨z1, z2⟩ := hq; first | (rcases z2 with z2 | z2 <;> first | (exact hz z2) | omega | (split at z1 <;> (try split at z1) <;> omega)) | (split at z1 <;> (try split at z1) <;> omega))⟩
      · refine g_if_eq (q := 27) (t := 31) hx d_Rd_hasRoom_24 rfl rfl (zb_eq0 (by omega)) (fun h24 => ?_) (fun h24 => ?_)
        · refine g_iconst (q := 32) (v := nI 1) hx d_Rd_hasRoom_31 rfl (by decide) ?_
          refine g_istore (q := 34) (lc' := [(4, _), (3, _), (0, _), (1, _), (2, _)]) hx d_Rd_hasRoom_32 rfl (by decide) rfl ?_
          refine g_aload_n (q := 35) hx d_Rd_hasRoom_34 rfl rfl ?_
          refine g_geti (q := 38) hx d_Rd_hasRoom_35 rfl fl_Rd_28 (by assumption) (by assumption) ?_
          refine g_iload_n (q := 39) hx d_Rd_hasRoom_38 rfl rfl ?_
          refine g_iadd (q := 40) hx d_Rd_hasRoom_39 rfl (nI_add _ _) ?_
          refine g_bipush (q := 42) (v := nI 20) hx d_Rd_hasRoom_40 rfl (by decide) ?_
          refine g_icmp_gt (q := 45) (t := 61) hx d_Rd_hasRoom_42 rfl rfl (nI_ltI (by omega) (by omega)) (fun h42 => ?_) (fun h42 => ?_)
          · refine g_iconst (q := 62) (v := nI 0) hx d_Rd_hasRoom_61 rfl (by decide) ?_
            exact g_zret hx d_Rd_hasRoom_62 rfl (by decide) hQ ⟨Nat.le_refl _, Nat.le_refl _⟩ ⟨_, rfl, rfl, rfl, rfl, by unfold mRoom mCnt; dsimp only; first | (refine Or.inl ⟨rfl, ?_, ?_⟩ <;> first | omega | (split <;> (try split) <;> omega) | (exact Or.inl hz) | (right; omega)) | (refine Or.inr ⟨rfl, fun hq => ?_⟩; obtain ⟨z1, z2⟩ := hq; first | (rcases z2 with z2 | z2 <;> first | (exact hz z2) | omega | (split at z1 <;> (try split at z1) <;> omega)) | (split at z1 <;> (try split at z1) <;> omega))⟩
          · refine g_aload_n (q := 46) hx d_Rd_hasRoom_45 rfl rfl ?_
            refine g_geti (q := 49) hx d_Rd_hasRoom_46 rfl fl_Rd_25 (by assumption) (by assumption) ?_
            refine g_iload (q := 51) hx d_Rd_hasRoom_49 rfl rfl ?_
            refine g_iadd (q := 52) hx d_Rd_hasRoom_51 rfl (nI_add _ _) ?_
            refine g_bipush (q := 54) (v := nI 12) hx d_Rd_hasRoom_52 rfl (by decide) ?_
            refine g_icmp_gt (q := 57) (t := 61) hx d_Rd_hasRoom_54 rfl rfl (nI_ltI (by omega) (by omega)) (fun h54 => ?_) (fun h54 => ?_)
            · refine g_iconst (q := 62) (v := nI 0) hx d_Rd_hasRoom_61 rfl (by decide) ?_
              exact g_zret hx d_Rd_hasRoom_62 rfl (by decide) hQ ⟨Nat.le_refl _, Nat.le_refl _⟩ ⟨_, rfl, rfl, rfl, rfl, by unfold mRoom mCnt; dsimp only; first | (refine Or.inl ⟨rfl, ?_, ?_⟩ <;> first | omega | (split <;> (try split) <;> omega) | (exact Or.inl hz) | (right; omega)) | (refine Or.inr ⟨rfl, fun hq => ?_⟩; obtain ⟨z1, z2⟩ := hq; first | (rcases z2 with z2 | z2 <;> first | (exact hz z2) | omega | (split at z1 <;> (try split at z1) <;> omega)) | (split at z1 <;> (try split at z1) <;> omega))⟩
            · refine g_iconst (q := 58) (v := nI 1) hx d_Rd_hasRoom_57 rfl (by decide) ?_
              refine g_goto (q := 62) hx d_Rd_hasRoom_58 rfl ?_
              exact g_zret hx d_Rd_hasRoom_62 rfl (by decide) hQ ⟨Nat.le_refl _, Nat.le_refl _⟩ ⟨_, rfl, rfl, rfl, rfl, by unfold mRoom mCnt; dsimp only; first | (refine Or.inl ⟨rfl, ?_, ?_⟩ <;> first | omega | (split <;> (try split) <;> omega) | (exact Or.inl hz) | (right; omega)) | (refine Or.inr ⟨rfl, fun hq => ?_⟩; obtain ⟨z1, z2⟩ := hq; first | (rcases z2 with z2 | z2 <;> first | (exact hz z2) | omega | (split at z1 <;> (try split at z1) <;> omega)) | (split at z1 <;> (try split at z1) <;> omega))⟩
        · exact absurd h24 (by omega)
    · refine g_iconst (q := 14) (v := nI 0) hx d_Rd_hasRoom_13 rfl (by decide) ?_
      refine g_goto (q := 18) hx d_Rd_hasRoom_14 rfl ?_
      refine g_istore_n (q := 19) (lc' := [(3, _), (0, _), (1, _), (2, _)]) hx d_Rd_hasRoom_18 rfl (by decide) rfl ?_
      refine g_aload_n (q := 20) hx d_Rd_hasRoom_19 rfl rfl ?_
      refine g_iload_n (q := 21) hx d_Rd_hasRoom_20 rfl rfl ?_
      refine g_ci (q := 24) (zrunV hx d_Rd_hasRoom_21 lk_Rd_48 rfl rfl (by assumption) rfl rfl (Nat.le_of_ble_eq_true rfl) (by decide) (by omega) (by omega) (c_Rd_lengthensLast _ E Γ n _ a rd.2 (nI k) hs0 q2 (fun j hj => (q5 j hj).1) h12)) rfl (fun r21 M21 p21 => ?_)
      obtain ⟨rfl, p21⟩ := p21
      rcases p21 with ⟨rfl, hz⟩ | ⟨rfl, hz⟩ <;> rw [zLen_iff hk hks] at hz
      · refine g_if_eq (q := 27) (t := 31) hx d_Rd_hasRoom_24 rfl rfl (zb_eq0 (by omega)) (fun h24 => ?_) (fun h24 => ?_)
        · exact absurd h24 (by omega)
        · refine g_iconst (q := 28) (v := nI 0) hx d_Rd_hasRoom_27 rfl (by decide) ?_
          refine g_goto (q := 32) hx d_Rd_hasRoom_28 rfl ?_
          refine g_istore (q := 34) (lc' := [(4, _), (3, _), (0, _), (1, _), (2, _)]) hx d_Rd_hasRoom_32 rfl (by decide) rfl ?_
          refine g_aload_n (q := 35) hx d_Rd_hasRoom_34 rfl rfl ?_
          refine g_geti (q := 38) hx d_Rd_hasRoom_35 rfl fl_Rd_28 (by assumption) (by assumption) ?_
          refine g_iload_n (q := 39) hx d_Rd_hasRoom_38 rfl rfl ?_
          refine g_iadd (q := 40) hx d_Rd_hasRoom_39 rfl (nI_add _ _) ?_
          refine g_bipush (q := 42) (v := nI 20) hx d_Rd_hasRoom_40 rfl (by decide) ?_
          refine g_icmp_gt (q := 45) (t := 61) hx d_Rd_hasRoom_42 rfl rfl (nI_ltI (by omega) (by omega)) (fun h42 => ?_) (fun h42 => ?_)
          · refine g_iconst (q := 62) (v := nI 0) hx d_Rd_hasRoom_61 rfl (by decide) ?_
            exact g_zret hx d_Rd_hasRoom_62 rfl (by decide) hQ ⟨Nat.le_refl _, Nat.le_refl _⟩ ⟨_, rfl, rfl, rfl, rfl, by unfold mRoom mCnt; dsimp only; first | (refine Or.inl ⟨rfl, ?_, ?_⟩ <;> first | omega | (split <;> (try split) <;> omega) | (exact Or.inl hz) | (right; omega)) | (refine Or.inr ⟨rfl, fun hq => ?_⟩; obtain ⟨z1, z2⟩ := hq; first | (rcases z2 with z2 | z2 <;> first | (exact hz z2) | omega | (split at z1 <;> (try split at z1) <;> omega)) | (split at z1 <;> (try split at z1) <;> omega))⟩
          · refine g_aload_n (q := 46) hx d_Rd_hasRoom_45 rfl rfl ?_
            refine g_geti (q := 49) hx d_Rd_hasRoom_46 rfl fl_Rd_25 (by assumption) (by assumption) ?_
            refine g_iload (q := 51) hx d_Rd_hasRoom_49 rfl rfl ?_
            refine g_iadd (q := 52) hx d_Rd_hasRoom_51 rfl (nI_add _ _) ?_
            refine g_bipush (q := 54) (v := nI 12) hx d_Rd_hasRoom_52 rfl (by decide) ?_
            refine g_icmp_gt (q := 57) (t := 61) hx d_Rd_hasRoom_54 rfl rfl (nI_ltI (by omega) (by omega)) (fun h54 => ?_) (fun h54 => ?_)
            · refine g_iconst (q := 62) (v := nI 0) hx d_Rd_hasRoom_61 rfl (by decide) ?_
              exact g_zret hx d_Rd_hasRoom_62 rfl (by decide) hQ ⟨Nat.le_refl _, Nat.le_refl _⟩ ⟨_, rfl, rfl, rfl, rfl, by unfold mRoom mCnt; dsimp only; first | (refine Or.inl ⟨rfl, ?_, ?_⟩ <;> first | omega | (split <;> (try split) <;> omega) | (exact Or.inl hz) | (right; omega)) | (refine Or.inr ⟨rfl, fun hq => ?_⟩; obtain ⟨z1, z2⟩ := hq; first | (rcases z2 with z2 | z2 <;> first | (exact hz z2) | omega | (split at z1 <;> (try split at z1) <;> omega)) | (split at z1 <;> (try split at z1) <;> omega))⟩
            · refine g_iconst (q := 58) (v := nI 1) hx d_Rd_hasRoom_57 rfl (by decide) ?_
              refine g_goto (q := 62) hx d_Rd_hasRoom_58 rfl ?_
              exact g_zret hx d_Rd_hasRoom_62 rfl (by decide) hQ ⟨Nat.le_refl _, Nat.le_refl _⟩ ⟨_, rfl, rfl, rfl, rfl, by unfold mRoom mCnt; dsimp only; first | (refine Or.inl ⟨rfl, ?_, ?_⟩ <;> first | omega | (split <;> (try split) <;> omega) | (exact Or.inl hz) | (right; omega)) | (refine Or.inr ⟨rfl, fun hq => ?_⟩; obtain ⟨z1, z2⟩ := hq; first | (rcases z2 with z2 | z2 <;> first | (exact hz z2) | omega | (split at z1 <;> (try split at z1) <;> omega)) | (split at z1 <;> (try split at z1) <;> omega))⟩
      · refine g_if_eq (q := 27) (t := 31) hx d_Rd_hasRoom_24 rfl rfl (zb_eq0 (by omega)) (fun h24 => ?_) (fun h24 => ?_)
        · refine g_iconst (q := 32) (v := nI 1) hx d_Rd_hasRoom_31 rfl (by decide) ?_
          refine g_istore (q := 34) (lc' := [(4, _), (3, _), (0, _), (1, _), (2, _)]) hx d_Rd_hasRoom_32 rfl (by decide) rfl ?_
          refine g_aload_n (q := 35) hx d_Rd_hasRoom_34 rfl rfl ?_
          refine g_geti (q := 38) hx d_Rd_hasRoom_35 rfl fl_Rd_28 (by assumption) (by assumption) ?_
          refine g_iload_n (q := 39) hx d_Rd_hasRoom_38 rfl rfl ?_
          refine g_iadd (q := 40) hx d_Rd_hasRoom_39 rfl (nI_add _ _) ?_
          refine g_bipush (q := 42) (v := nI 20) hx d_Rd_hasRoom_40 rfl (by decide) ?_
          refine g_icmp_gt (q := 45) (t := 61) hx d_Rd_hasRoom_42 rfl rfl (nI_ltI (by omega) (by omega)) (fun h42 => ?_) (fun h42 => ?_)
          · refine g_iconst (q := 62) (v := nI 0) hx d_Rd_hasRoom_61 rfl (by decide) ?_
            exact g_zret hx d_Rd_hasRoom_62 rfl (by decide) hQ ⟨Nat.le_refl _, Nat.le_refl _⟩ ⟨_, rfl, rfl, rfl, rfl, by unfold mRoom mCnt; dsimp only; first | (refine Or.inl ⟨rfl, ?_, ?_⟩ <;> first | omega | (split <;> (try split) <;> omega) | (exact Or.inl hz) | (right; omega)) | (refine Or.inr ⟨rfl, fun hq => ?_⟩; obtain ⟨z1, z2⟩ := hq; first | (rcases z2 with z2 | z2 <;> first | (exact hz z2) | omega | (split at z1 <;> (try split at z1) <;> omega)) | (split at z1 <;> (try split at z1) <;> omega))⟩
          · refine g_aload_n (q := 46) hx d_Rd_hasRoom_45 rfl rfl ?_
            refine g_geti (q := 49) hx d_Rd_hasRoom_46 rfl fl_Rd_25 (by assumption) (by assumption) ?_
            refine g_iload (q := 51) hx d_Rd_hasRoom_49 rfl rfl ?_
            refine g_iadd (q := 52) hx d_Rd_hasRoom_51 rfl (nI_add _ _) ?_
            refine g_bipush (q := 54) (v := nI 12) hx d_Rd_hasRoom_52 rfl (by decide) ?_
            refine g_icmp_gt (q := 57) (t := 61) hx d_Rd_hasRoom_54 rfl rfl (nI_ltI (by omega) (by omega)) (fun h54 => ?_) (fun h54 => ?_)
            · refine g_iconst (q := 62) (v := nI 0) hx d_Rd_hasRoom_61 rfl (by decide) ?_
              exact g_zret hx d_Rd_hasRoom_62 rfl (by decide) hQ ⟨Nat.le_refl _, Nat.le_refl _⟩ ⟨_, rfl, rfl, rfl, rfl, by unfold mRoom mCnt; dsimp only; first | (refine Or.inl ⟨rfl, ?_, ?_⟩ <;> first | omega | (split <;> (try split) <;> omega) | (exact Or.inl hz) | (right; omega)) | (refine Or.inr ⟨rfl, fun hq => ?_⟩; obtain ⟨z1, z2⟩ := hq; first | (rcases z2 with z2 | z2 <;> first | (exact hz z2) | omega | (split at z1 <;> (try split at z1) <;> omega)) | (split at z1 <;> (try split at z1) <;> omega))⟩
            · refine g_iconst (q := 58) (v := nI 1) hx d_Rd_hasRoom_57 rfl (by decide) ?_
              refine g_goto (q := 62) hx d_Rd_hasRoom_58 rfl ?_
              exact g_zret hx d_Rd_hasRoom_62 rfl (by decide) hQ ⟨Nat.le_refl _, Nat.le_refl _⟩ ⟨_, rfl, rfl, rfl, rfl, by unfold mRoom mCnt; dsimp only; first | (refine Or.inl ⟨rfl, ?_, ?_⟩ <;> first | omega | (split <;> (try split) <;> omega) | (exact Or.inl hz) | (right; omega)) | (refine Or.inr ⟨rfl, fun hq => ?_⟩; obtain ⟨z1, z2⟩ := hq; first | (rcases z2 with z2 | z2 <;> first | (exact hz z2) | omega | (split at z1 <;> (try split at z1) <;> omega)) | (split at z1 <;> (try split at z1) <;> omega))⟩
        · exact absurd h24 (by omega)
  · refine g_iload_n (q := 5) hx d_Rd_hasRoom_4 rfl rfl ?_
    refine g_goto (q := 18) hx d_Rd_hasRoom_5 rfl ?_
    refine g_istore_n (q := 19) (lc' := [(3, _), (0, _), (1, _), (2, _)]) hx d_Rd_hasRoom_18 rfl (by decide) rfl ?_
    refine g_aload_n (q := 20) hx d_Rd_hasRoom_19 rfl rfl ?_
    refine g_iload_n (q := 21) hx d_Rd_hasRoom_20 rfl rfl ?_
    refine g_ci (q := 24) (zrunV hx d_Rd_hasRoom_21 lk_Rd_48 rfl rfl (by assumption) rfl rfl (Nat.le_of_ble_eq_true rfl) (by decide) (by omega) (by omega) (c_Rd_lengthensLast _ E Γ n _ a rd.2 (nI k) hs0 q2 (fun j hj => (q5 j hj).1) h12)) rfl (fun r21 M21 p21 => ?_)
    obtain ⟨rfl, p21⟩ := p21
    rcases p21 with ⟨rfl, hz⟩ | ⟨rfl, hz⟩ <;> rw [zLen_iff hk hks] at hz
    · refine g_if_eq (q := 27) (t := 31) hx d_Rd_hasRoom_24 rfl rfl (zb_eq0 (by omega)) (fun h24 => ?_) (fun h24 => ?_)
      · exact absurd h24 (by omega)
      · refine g_iconst (q := 28) (v := nI 0) hx d_Rd_hasRoom_27 rfl (by decide) ?_
        refine g_goto (q := 32) hx d_Rd_hasRoom_28 rfl ?_
        refine g_istore (q := 34) (lc' := [(4, _), (3, _), (0, _), (1, _), (2, _)]) hx d_Rd_hasRoom_32 rfl (by decide) rfl ?_
        refine g_aload_n (q := 35) hx d_Rd_hasRoom_34 rfl rfl ?_
        refine g_geti (q := 38) hx d_Rd_hasRoom_35 rfl fl_Rd_28 (by assumption) (by assumption) ?_
        refine g_iload_n (q := 39) hx d_Rd_hasRoom_38 rfl rfl ?_
        refine g_iadd (q := 40) hx d_Rd_hasRoom_39 rfl (nI_add _ _) ?_
        refine g_bipush (q := 42) (v := nI 20) hx d_Rd_hasRoom_40 rfl (by decide) ?_
        refine g_icmp_gt (q := 45) (t := 61) hx d_Rd_hasRoom_42 rfl rfl (nI_ltI (by omega) (by omega)) (fun h42 => ?_) (fun h42 => ?_)
        · refine g_iconst (q := 62) (v := nI 0) hx d_Rd_hasRoom_61 rfl (by decide) ?_
          exact g_zret hx d_Rd_hasRoom_62 rfl (by decide) hQ ⟨Nat.le_refl _, Nat.le_refl _⟩ ⟨_, rfl, rfl, rfl, rfl, by unfold mRoom mCnt; dsimp only; first | (refine Or.inl ⟨rfl, ?_, ?_⟩ <;> first | omega | (split <;> (try split) <;> omega) | (exact Or.inl hz) | (right; omega)) | (refine Or.inr ⟨rfl, fun hq => ?_⟩; obtain ⟨z1, z2⟩ := hq; first | (rcases z2 with z2 | z2 <;> first | (exact hz z2) | omega | (split at z1 <;> (try split at z1) <;> omega)) | (split at z1 <;> (try split at z1) <;> omega))⟩
        · refine g_aload_n (q := 46) hx d_Rd_hasRoom_45 rfl rfl ?_
          refine g_geti (q := 49) hx d_Rd_hasRoom_46 rfl fl_Rd_25 (by assumption) (by assumption) ?_
          refine g_iload (q := 51) hx d_Rd_hasRoom_49 rfl rfl ?_
          refine g_iadd (q := 52) hx d_Rd_hasRoom_51 rfl (nI_add _ _) ?_
          refine g_bipush (q := 54) (v := nI 12) hx d_Rd_hasRoom_52 rfl (by decide) ?_
          refine g_icmp_gt (q := 57) (t := 61) hx d_Rd_hasRoom_54 rfl rfl (nI_ltI (by omega) (by omega)) (fun h54 => ?_) (fun h54 => ?_)
          · refine g_iconst (q := 62) (v := nI 0) hx d_Rd_hasRoom_61 rfl (by decide) ?_
            exact g_zret hx d_Rd_hasRoom_62 rfl (by decide) hQ ⟨Nat.le_refl _, Nat.le_refl _⟩ ⟨_, rfl, rfl, rfl, rfl, by unfold mRoom mCnt; dsimp only; first | (refine Or.inl ⟨rfl, ?_, ?_⟩ <;> first | omega | (split <;> (try split) <;> omega) | (exact Or.inl hz) | (right; omega)) | (refine Or.inr ⟨rfl, fun hq => ?_⟩; obtain ⟨z1, z2⟩ := hq; first | (rcases z2 with z2 | z2 <;> first | (exact hz z2) | omega | (split at z1 <;> (try split at z1) <;> omega)) | (split at z1 <;> (try split at z1) <;> omega))⟩
          · refine g_iconst (q := 58) (v := nI 1) hx d_Rd_hasRoom_57 rfl (by decide) ?_
            refine g_goto (q := 62) hx d_Rd_hasRoom_58 rfl ?_
            exact g_zret hx d_Rd_hasRoom_62 rfl (by decide) hQ ⟨Nat.le_refl _, Nat.le_refl _⟩ ⟨_, rfl, rfl, rfl, rfl, by unfold mRoom mCnt; dsimp only; first | (refine Or.inl ⟨rfl, ?_, ?_⟩ <;> first | omega | (split <;> (try split) <;> omega) | (exact Or.inl hz) | (right; omega)) | (refine Or.inr ⟨rfl, fun hq => ?_⟩; obtain ⟨z1, z2⟩ := hq; first | (rcases z2 with z2 | z2 <;> first | (exact hz z2) | omega | (split at z1 <;> (try split at z1) <;> omega)) | (split at z1 <;> (try split at z1) <;> omega))⟩
    · refine g_if_eq (q := 27) (t := 31) hx d_Rd_hasRoom_24 rfl rfl (zb_eq0 (by omega)) (fun h24 => ?_) (fun h24 => ?_)
      · refine g_iconst (q := 32) (v := nI 1) hx d_Rd_hasRoom_31 rfl (by decide) ?_
        refine g_istore (q := 34) (lc' := [(4, _), (3, _), (0, _), (1, _), (2, _)]) hx d_Rd_hasRoom_32 rfl (by decide) rfl ?_
        refine g_aload_n (q := 35) hx d_Rd_hasRoom_34 rfl rfl ?_
        refine g_geti (q := 38) hx d_Rd_hasRoom_35 rfl fl_Rd_28 (by assumption) (by assumption) ?_
        refine g_iload_n (q := 39) hx d_Rd_hasRoom_38 rfl rfl ?_
        refine g_iadd (q := 40) hx d_Rd_hasRoom_39 rfl (nI_add _ _) ?_
        refine g_bipush (q := 42) (v := nI 20) hx d_Rd_hasRoom_40 rfl (by decide) ?_
        refine g_icmp_gt (q := 45) (t := 61) hx d_Rd_hasRoom_42 rfl rfl (nI_ltI (by omega) (by omega)) (fun h42 => ?_) (fun h42 => ?_)
        · refine g_iconst (q := 62) (v := nI 0) hx d_Rd_hasRoom_61 rfl (by decide) ?_
          exact g_zret hx d_Rd_hasRoom_62 rfl (by decide) hQ ⟨Nat.le_refl _, Nat.le_refl _⟩ ⟨_, rfl, rfl, rfl, rfl, by unfold mRoom mCnt; dsimp only; first | (refine Or.inl ⟨rfl, ?_, ?_⟩ <;> first | omega | (split <;> (try split) <;> omega) | (exact Or.inl hz) | (right; omega)) | (refine Or.inr ⟨rfl, fun hq => ?_⟩; obtain ⟨z1, z2⟩ := hq; first | (rcases z2 with z2 | z2 <;> first | (exact hz z2) | omega | (split at z1 <;> (try split at z1) <;> omega)) | (split at z1 <;> (try split at z1) <;> omega))⟩
        · refine g_aload_n (q := 46) hx d_Rd_hasRoom_45 rfl rfl ?_
          refine g_geti (q := 49) hx d_Rd_hasRoom_46 rfl fl_Rd_25 (by assumption) (by assumption) ?_
          refine g_iload (q := 51) hx d_Rd_hasRoom_49 rfl rfl ?_
          refine g_iadd (q := 52) hx d_Rd_hasRoom_51 rfl (nI_add _ _) ?_
          refine g_bipush (q := 54) (v := nI 12) hx d_Rd_hasRoom_52 rfl (by decide) ?_
          refine g_icmp_gt (q := 57) (t := 61) hx d_Rd_hasRoom_54 rfl rfl (nI_ltI (by omega) (by omega)) (fun h54 => ?_) (fun h54 => ?_)
          · refine g_iconst (q := 62) (v := nI 0) hx d_Rd_hasRoom_61 rfl (by decide) ?_
            exact g_zret hx d_Rd_hasRoom_62 rfl (by decide) hQ ⟨Nat.le_refl _, Nat.le_refl _⟩ ⟨_, rfl, rfl, rfl, rfl, by unfold mRoom mCnt; dsimp only; first | (refine Or.inl ⟨rfl, ?_, ?_⟩ <;> first | omega | (split <;> (try split) <;> omega) | (exact Or.inl hz) | (right; omega)) | (refine Or.inr ⟨rfl, fun hq => ?_⟩; obtain ⟨z1, z2⟩ := hq; first | (rcases z2 with z2 | z2 <;> first | (exact hz z2) | omega | (split at z1 <;> (try split at z1) <;> omega)) | (split at z1 <;> (try split at z1) <;> omega))⟩
          · refine g_iconst (q := 58) (v := nI 1) hx d_Rd_hasRoom_57 rfl (by decide) ?_
            refine g_goto (q := 62) hx d_Rd_hasRoom_58 rfl ?_
            exact g_zret hx d_Rd_hasRoom_62 rfl (by decide) hQ ⟨Nat.le_refl _, Nat.le_refl _⟩ ⟨_, rfl, rfl, rfl, rfl, by unfold mRoom mCnt; dsimp only; first | (refine Or.inl ⟨rfl, ?_, ?_⟩ <;> first | omega | (split <;> (try split) <;> omega) | (exact Or.inl hz) | (right; omega)) | (refine Or.inr ⟨rfl, fun hq => ?_⟩; obtain ⟨z1, z2⟩ := hq; first | (rcases z2 with z2 | z2 <;> first | (exact hz z2) | omega | (split at z1 <;> (try split at z1) <;> omega)) | (split at z1 <;> (try split at z1) <;> omega))⟩
      · exact absurd h24 (by omega)
