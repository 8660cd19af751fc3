set_option maxHeartbeats 4000000 in
set_option maxRecDepth 100000 in
/-- sortByPosition() -/
theorem c_Sr_sortByPosition (l : Launch) (E : zE) (Γ : zG) (n : Nat) (M : zM) (x sh sp c : Nat) (pos : Nat → Nat) (hX : pX Γ M.2.2 x sh sp) (hc : zi M (x + 3) 1 = nI c) (hc24 : c ≤ 24) (hpos : ∀ i, i < c → zi M (x + 5 + 4 * i) 3 = nI (pos i)) (hpl : ∀ i, i < c → pos i < 100000) :
    zCt l E Y_Sr_sortByPosition 0 (0, 0) [.ref x] Γ n M (zPv Γ n (fun M' => zOr (x + 105) M M' ∧ ∀ j, j < c → zr M' (x + 105) j = x + 5 + 4 * mSx pos c j)) := by
  refine zCt.of [(0, .ref x)] (by decide) (Nat.le_of_ble_eq_true rfl) rfl (fun f hfl hx hQ => ?_)
  obtain ⟨⟨h0, hx0⟩, ⟨-, h21', h23', -⟩, -, -, ⟨hf0, hf1, hf2', hfi'⟩, h6, -⟩ := hX
  have h21 : zr M x 1 = x + 3 := h21'
  have h23 : zr M x 3 = x + 105 := h23'
  have hf2 : zr M (x + 3) 0 = x + 4 := hf2'
  have hfi : ∀ i, i < 25 → zr M (x + 4) i = x + 5 + 4 * i ∧ pSh Γ M.2.2 (x + 5 + 4 * i) := hfi'
  clear h21' h23' hf2' hfi'
  have loop : ∀ (i : Nat) (M1 : zM), i ≤ c → zOr (x + 105) M M1 → (∀ j, j < i → zr M1 (x + 105) j = x + 5 + 4 * mSx pos i j) → zGo f E Γ n (0, 0) M1 2 [(1, .int (nI i)), (0, .ref x)] [] := by
    refine z_lp (fun i => c - i) _ ?_
    intro i M1 ih hi j1 j2
    have k2 : zr M1 x 1 = x + 3 := by rw [j1.r (by omega)]; exact h21
    have k4 : zr M1 (x + 3) 0 = x + 4 := by rw [j1.r (by omega)]; exact hf2
    refine g_iload_n (q := 3) hx d_Sr_sortByPosition_2 rfl rfl ?_
    refine g_aload_n (q := 4) hx d_Sr_sortByPosition_3 rfl rfl ?_
    refine g_geto (q := 7) hx d_Sr_sortByPosition_4 rfl fl_Sr_21 h0 k2 (by first | exact Nat.succ_ne_zero _ | omega) ?_
    refine g_geti (q := 10) hx d_Sr_sortByPosition_7 rfl fl_Sr_72 hf0 ((j1.i _ _).trans hc) ?_
    refine g_icmp_ge (q := 13) (t := 80) hx d_Sr_sortByPosition_10 rfl rfl (nI_leI (by omega) (by omega)) (fun h10 => ?_) (fun h10 => ?_)
    · exact g_vret hx d_Sr_sortByPosition_80 rfl hQ ⟨Nat.le_refl _, Nat.le_refl _⟩ ⟨rfl, rfl, rfl, j1, by obtain rfl : i = c := (by omega); exact j2⟩
    · have k5 : zr M1 (x + 4) i = x + 5 + 4 * i := by rw [j1.r (by omega)]; exact (hfi i (by omega)).1
      refine g_aload_n (q := 14) hx d_Sr_sortByPosition_13 rfl rfl ?_
      refine g_geto (q := 17) hx d_Sr_sortByPosition_14 rfl fl_Sr_21 h0 k2 (by first | exact Nat.succ_ne_zero _ | omega) ?_
      refine g_geta (q := 20) hx d_Sr_sortByPosition_17 rfl fl_Sr_62 hf0 k4 (by first | exact Nat.succ_ne_zero _ | omega) ?_
      refine g_iload_n (q := 21) hx d_Sr_sortByPosition_20 rfl rfl ?_
      refine g_aald (q := 22) hx d_Sr_sortByPosition_21 rfl hf1 rfl (by omega) (by decide) k5 (by omega) ?_
      refine g_astore_n (q := 23) (lc' := [(2, _), (1, _), (0, _)]) hx d_Sr_sortByPosition_22 rfl (by decide) rfl ?_
      refine g_iload_n (q := 24) hx d_Sr_sortByPosition_23 rfl rfl ?_
      refine g_istore_n (q := 25) (lc' := [(3, _), (2, _), (1, _), (0, _)]) hx d_Sr_sortByPosition_24 rfl (by decide) rfl ?_
      have inner : ∀ (p : Nat) (M2 : zM), p ≤ i → zOr (x + 105) M M2 → (∀ j, j < p → zr M2 (x + 105) j = x + 5 + 4 * mSx pos i j) → (∀ j, p < j → j ≤ i → zr M2 (x + 105) j = x + 5 + 4 * mSx pos i (j - 1)) → mSlot (fun k => pos (mSx pos i k)) (pos i) p = mSlot (fun k => pos (mSx pos i k)) (pos i) i → zGo f E Γ n (0, 0) M2 25 [(3, .int (nI p)), (2, .ref (x + 5 + 4 * i)), (1, .int (nI i)), (0, .ref x)] [] := by
        refine z_lp (fun p => p) _ ?_
        intro p M2 ih2 hp k1 e1 e2 e3
        have k3 : zr M2 x 3 = x + 105 := by rw [k1.r (by omega)]; exact h23
        refine g_iload_n (q := 26) hx d_Sr_sortByPosition_25 rfl rfl ?_
        refine g_if_le (q := 29) (t := 67) hx d_Sr_sortByPosition_26 rfl rfl (zb_le0 (by omega)) (fun h26 => ?_) (fun h26 => ?_)
        · obtain rfl : p = 0 := (by omega)
          have e4 : mSlot (fun k => pos (mSx pos i k)) (pos i) i = 0 := e3.symm
          refine g_aload_n (q := 68) hx d_Sr_sortByPosition_67 rfl rfl ?_
          refine g_geta (q := 71) hx d_Sr_sortByPosition_68 rfl fl_Sr_31 h0 k3 (by first | exact Nat.succ_ne_zero _ | omega) ?_
          refine g_iload_n (q := 72) hx d_Sr_sortByPosition_71 rfl rfl ?_
          refine g_aload_n (q := 73) hx d_Sr_sortByPosition_72 rfl rfl ?_
          refine g_aast (q := 74) hx d_Sr_sortByPosition_73 rfl h6 rfl (by omega) (by decide) (hfi i (by omega)).2.1.1 (by omega) ?_
          refine g_iinc (q := 77) (lc' := [(1, _), (3, _), (2, _), (0, _)]) hx d_Sr_sortByPosition_74 rfl rfl (z_inc _) (by decide) rfl ?_
          refine g_goto (q := 2) hx d_Sr_sortByPosition_77 rfl ?_
          refine z_perm (lc' := [(1, .int (nI (i + 1))), (0, .ref x)]) (fun q hq => by simp only [List.mem_cons, List.not_mem_nil, or_false] at hq ⊢; rcases hq with h | h <;> simp [h]) ?_
          refine ih (i + 1) _ (by show c - (i + 1) < c - i; omega) (by omega) k1.sr (fun j hj => ?_)
          simp only [mSx]
          rw [e4]
          unfold mIn
          by_cases c1 : j < 0
          · rw [if_pos c1, zr_k (by omega)]; exact e1 j c1
          · rw [if_neg c1]
            by_cases c2 : j = 0
            · rw [if_pos c2, c2, zr_s]
            · rw [if_neg c2, if_pos (by omega), zr_k c2]; exact e2 j (by omega) (by omega)
        · obtain ⟨p, rfl⟩ : ∃ q, p = q + 1 := ⟨p - 1, by omega⟩
          have hlt := mSx_lt pos i p (by omega)
          have hgp := (hfi _ (by omega : mSx pos i p < 25)).2.1.1
          have hgi := (hfi i (by omega)).2.1.1
          have hpp := hpos (mSx pos i p) (by omega)
          have hp9 := hpl (mSx pos i p) (by omega)
          have hpi := hpos i (by omega)
          have hpi9 := hpl i (by omega)
          have hlo := e1 p (by omega)
          refine g_aload_n (q := 30) hx d_Sr_sortByPosition_29 rfl rfl ?_
          refine g_geta (q := 33) hx d_Sr_sortByPosition_30 rfl fl_Sr_31 h0 k3 (by first | exact Nat.succ_ne_zero _ | omega) ?_
          refine g_iload_n (q := 34) hx d_Sr_sortByPosition_33 rfl rfl ?_
          refine g_iconst (q := 35) (v := nI 1) hx d_Sr_sortByPosition_34 rfl (by decide) ?_
          refine g_isub (q := 36) hx d_Sr_sortByPosition_35 rfl (pk_sub (by omega)) ?_
          refine g_aald (q := 37) hx d_Sr_sortByPosition_36 rfl h6 rfl (by omega) (by decide) hlo (by omega) ?_
          refine g_geti (q := 40) hx d_Sr_sortByPosition_37 rfl fl_Sr_130 hgp ((k1.i _ _).trans hpp) ?_
          refine g_aload_n (q := 41) hx d_Sr_sortByPosition_40 rfl rfl ?_
          refine g_geti (q := 44) hx d_Sr_sortByPosition_41 rfl fl_Sr_130 hgi ((k1.i _ _).trans hpi) ?_
          refine g_icmp_le (q := 47) (t := 67) hx d_Sr_sortByPosition_44 rfl rfl (nI_leI (by omega) (by omega)) (fun h44 => ?_) (fun h44 => ?_)
          · have e4 : mSlot (fun k => pos (mSx pos i k)) (pos i) i = p + 1 := by
              rw [← e3]; simp only [mSlot]; rw [if_neg (by omega)]
            refine g_aload_n (q := 68) hx d_Sr_sortByPosition_67 rfl rfl ?_
            refine g_geta (q := 71) hx d_Sr_sortByPosition_68 rfl fl_Sr_31 h0 k3 (by first | exact Nat.succ_ne_zero _ | omega) ?_
            refine g_iload_n (q := 72) hx d_Sr_sortByPosition_71 rfl rfl ?_
            refine g_aload_n (q := 73) hx d_Sr_sortByPosition_72 rfl rfl ?_
            refine g_aast (q := 74) hx d_Sr_sortByPosition_73 rfl h6 rfl (by omega) (by decide) (hfi i (by omega)).2.1.1 (by omega) ?_
            refine g_iinc (q := 77) (lc' := [(1, _), (3, _), (2, _), (0, _)]) hx d_Sr_sortByPosition_74 rfl rfl (z_inc _) (by decide) rfl ?_
            refine g_goto (q := 2) hx d_Sr_sortByPosition_77 rfl ?_
            refine z_perm (lc' := [(1, .int (nI (i + 1))), (0, .ref x)]) (fun q hq => by simp only [List.mem_cons, List.not_mem_nil, or_false] at hq ⊢; rcases hq with h | h <;> simp [h]) ?_
            refine ih (i + 1) _ (by show c - (i + 1) < c - i; omega) (by omega) k1.sr (fun j hj => ?_)
            simp only [mSx]
            rw [e4]
            unfold mIn
            by_cases c1 : j < (p + 1)
            · rw [if_pos c1, zr_k (by omega)]; exact e1 j c1
            · rw [if_neg c1]
              by_cases c2 : j = (p + 1)
              · rw [if_pos c2, c2, zr_s]
              · rw [if_neg c2, if_pos (by omega), zr_k c2]; exact e2 j (by omega) (by omega)
          · refine g_aload_n (q := 48) hx d_Sr_sortByPosition_47 rfl rfl ?_
            refine g_geta (q := 51) hx d_Sr_sortByPosition_48 rfl fl_Sr_31 h0 k3 (by first | exact Nat.succ_ne_zero _ | omega) ?_
            refine g_iload_n (q := 52) hx d_Sr_sortByPosition_51 rfl rfl ?_
            refine g_aload_n (q := 53) hx d_Sr_sortByPosition_52 rfl rfl ?_
            refine g_geta (q := 56) hx d_Sr_sortByPosition_53 rfl fl_Sr_31 h0 k3 (by first | exact Nat.succ_ne_zero _ | omega) ?_
            refine g_iload_n (q := 57) hx d_Sr_sortByPosition_56 rfl rfl ?_
            refine g_iconst (q := 58) (v := nI 1) hx d_Sr_sortByPosition_57 rfl (by decide) ?_
            refine g_isub (q := 59) hx d_Sr_sortByPosition_58 rfl (pk_sub (by omega)) ?_
            refine g_aald (q := 60) hx d_Sr_sortByPosition_59 rfl h6 rfl (by omega) (by decide) hlo (by omega) ?_
            refine g_aast (q := 61) hx d_Sr_sortByPosition_60 rfl h6 rfl (by omega) (by decide) hgp (by omega) ?_
            refine g_iinc (q := 64) (lc' := [(3, _), (2, _), (1, _), (0, _)]) hx d_Sr_sortByPosition_61 rfl rfl (z_dec (by omega)) (by decide) rfl ?_
            refine g_goto (q := 25) hx d_Sr_sortByPosition_64 rfl ?_
            refine ih2 p _ (by omega) (by omega) k1.sr (fun j hj => ?_) (fun j hj1 hj2 => ?_) ?_
            · rw [zr_k (by omega)]; exact e1 j (by omega)
            · by_cases c : j = p + 1
              · subst c; rw [zr_s, Nat.add_sub_cancel]
              · rw [zr_k c]; exact e2 j (by omega) hj2
            · rw [← e3]; simp only [mSlot]; rw [if_pos (by omega)]
      exact inner i M1 (Nat.le_refl _) j1 j2 (fun j h1 h2 => by omega) rfl
  refine g_iconst (q := 1) (v := nI 0) hx d_Sr_sortByPosition_0 rfl (by decide) ?_
  refine g_istore_n (q := 2) (lc' := [(1, _), (0, _)]) hx d_Sr_sortByPosition_1 rfl (by decide) rfl ?_
  exact loop 0 M (Nat.zero_le _) zOr.rf (fun j hj => absurd hj (Nat.not_lt_zero _))
