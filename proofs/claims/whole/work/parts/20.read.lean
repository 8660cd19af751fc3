set_option maxHeartbeats 4000000 in
set_option maxRecDepth 100000 in
/-- place(): position and passed -/
theorem c_Rd_place (l : Launch) (E : zE) (Γ : zG) (n : Nat) (M : zM) (a : Nat) (ha : Γ a = some (0, 3)) : zCt l E Y_Rd_place 0 (0, 0) [.ref a] Γ n M (zPi Γ n (fun r M' => r = zi M a 3 + zi M a 6 ∧ M' = M)) := by
  refine zCt.of [(0, .ref a)] (by decide) (Nat.le_of_ble_eq_true rfl) rfl (fun f hfl hx hQ => ?_)
  refine g_aload_n (q := 1) hx d_Rd_place_0 rfl rfl ?_
  refine g_geti (q := 4) hx d_Rd_place_1 rfl fl_Rd_21 (by assumption) rfl ?_
  refine g_aload_n (q := 5) hx d_Rd_place_4 rfl rfl ?_
  refine g_geti (q := 8) hx d_Rd_place_5 rfl fl_Rd_31 (by assumption) rfl ?_
  refine g_iadd (q := 9) hx d_Rd_place_8 rfl rfl ?_
  exact g_iret hx d_Rd_place_9 rfl hQ ⟨Nat.le_refl _, Nat.le_refl _⟩ ⟨_, rfl, rfl, rfl, rfl, rfl⟩
set_option maxHeartbeats 4000000 in
set_option maxRecDepth 100000 in
/-- begin(place) -/
theorem c_Rd_begin (l : Launch) (E : zE) (Γ : zG) (n : Nat) (M : zM) (a : Nat) (p : Int32) (ha : Γ a = some (0, 3)) : zCt l E Y_Rd_begin 0 (0, 0) [.ref a, .int p] Γ n M (zPv Γ n (fun M' => M' = zsi (zsi (zsi (zsi M a 3 p) a 4 (nI 0)) a 5 (nI 0)) a 6 (nI 0))) := by
  refine zCt.of [(0, .ref a), (1, .int p)] (by decide) (Nat.le_of_ble_eq_true rfl) rfl (fun f hfl hx hQ => ?_)
  refine g_aload_n (q := 1) hx d_Rd_begin_0 rfl rfl ?_
  refine g_iload_n (q := 2) hx d_Rd_begin_1 rfl rfl ?_
  refine g_puti (q := 5) hx d_Rd_begin_2 rfl fl_Rd_21 nf_3_3 (by assumption) ?_
  refine g_aload_n (q := 6) hx d_Rd_begin_5 rfl rfl ?_
  refine g_iconst (q := 7) (v := nI 0) hx d_Rd_begin_6 rfl (by decide) ?_
  refine g_puti (q := 10) hx d_Rd_begin_7 rfl fl_Rd_25 nf_3_4 (by assumption) ?_
  refine g_aload_n (q := 11) hx d_Rd_begin_10 rfl rfl ?_
  refine g_iconst (q := 12) (v := nI 0) hx d_Rd_begin_11 rfl (by decide) ?_
  refine g_puti (q := 15) hx d_Rd_begin_12 rfl fl_Rd_28 nf_3_5 (by assumption) ?_
  refine g_aload_n (q := 16) hx d_Rd_begin_15 rfl rfl ?_
  refine g_iconst (q := 17) (v := nI 0) hx d_Rd_begin_16 rfl (by decide) ?_
  refine g_puti (q := 20) hx d_Rd_begin_17 rfl fl_Rd_31 nf_3_6 (by assumption) ?_
  exact g_vret hx d_Rd_begin_20 rfl hQ ⟨Nat.le_refl _, Nat.le_refl _⟩ ⟨rfl, rfl, rfl, rfl⟩
set_option maxHeartbeats 4000000 in
set_option maxRecDepth 100000 in
/-- place(), where its numbers are known -/
theorem c_Rd_placeN (l : Launch) (E : zE) (Γ : zG) (n : Nat) (M : zM) (a p c : Nat) (ha : Γ a = some (0, 3)) (hp : zi M a 3 = nI p) (hc : zi M a 6 = nI c) : zCt l E Y_Rd_place 0 (0, 0) [.ref a] Γ n M (zPi Γ n (fun r M' => r = nI (p + c) ∧ M' = M)) := by
  refine zCt.of [(0, .ref a)] (by decide) (Nat.le_of_ble_eq_true rfl) rfl (fun f hfl hx hQ => ?_)
  refine g_aload_n (q := 1) hx d_Rd_place_0 rfl rfl ?_
  refine g_geti (q := 4) hx d_Rd_place_1 rfl fl_Rd_21 (by assumption) (by assumption) ?_
  refine g_aload_n (q := 5) hx d_Rd_place_4 rfl rfl ?_
  refine g_geti (q := 8) hx d_Rd_place_5 rfl fl_Rd_31 (by assumption) (by assumption) ?_
  refine g_iadd (q := 9) hx d_Rd_place_8 rfl (nI_add _ _) ?_
  exact g_iret hx d_Rd_place_9 rfl hQ ⟨Nat.le_refl _, Nat.le_refl _⟩ ⟨_, rfl, rfl, rfl, rfl, rfl⟩
set_option maxHeartbeats 4000000 in
set_option maxRecDepth 100000 in
/-- isBase(number) -/
theorem c_Rd_isBase (l : Launch) (E : zE) (Γ : zG) (n : Nat) (M : zM) (x : Int32) : zCt l E Y_Rd_isBase 0 (0, 0) [.int x] Γ n M (zPi Γ n (fun r M' => M' = M ∧ (r = nI 1 ∧ (∃ m : Nat, m < 4 ∧ x = nI m) ∨ r = nI 0 ∧ ¬ ∃ m : Nat, m < 4 ∧ x = nI m))) := by
  refine zCt.of [(0, .int x)] (by decide) (Nat.le_of_ble_eq_true rfl) rfl (fun f hfl hx hQ => ?_)
  refine g_iload_n (q := 1) hx d_Rd_isBase_0 rfl rfl ?_
  refine g_if_lt (q := 4) (t := 13) hx d_Rd_isBase_1 rfl rfl Iff.rfl (fun h1 => ?_) (fun h1 => ?_)
  · refine g_iconst (q := 14) (v := nI 0) hx d_Rd_isBase_13 rfl (by decide) ?_
    exact g_zret hx d_Rd_isBase_14 rfl (by decide) hQ ⟨Nat.le_refl _, Nat.le_refl _⟩ ⟨_, rfl, rfl, rfl, rfl, Or.inr ⟨rfl, fun ⟨m, hm, e⟩ => by rw [e] at h1; exact nI_pos (by omega) h1⟩⟩
  · obtain ⟨m, hm, rfl⟩ := nI_of h1
    refine g_iload_n (q := 5) hx d_Rd_isBase_4 rfl rfl ?_
    refine g_iconst (q := 6) (v := nI 4) hx d_Rd_isBase_5 rfl (by decide) ?_
    refine g_icmp_ge (q := 9) (t := 13) hx d_Rd_isBase_6 rfl rfl (nI_leI (by omega) (by omega)) (fun h6 => ?_) (fun h6 => ?_)
    · refine g_iconst (q := 14) (v := nI 0) hx d_Rd_isBase_13 rfl (by decide) ?_
      exact g_zret hx d_Rd_isBase_14 rfl (by decide) hQ ⟨Nat.le_refl _, Nat.le_refl _⟩ ⟨_, rfl, rfl, rfl, rfl, Or.inr ⟨rfl, fun ⟨j, hj, e⟩ => by have := (nI_eq hm (by omega)).mp e; omega⟩⟩
    · refine g_iconst (q := 10) (v := nI 1) hx d_Rd_isBase_9 rfl (by decide) ?_
      refine g_goto (q := 14) hx d_Rd_isBase_10 rfl ?_
      exact g_zret hx d_Rd_isBase_14 rfl (by decide) hQ ⟨Nat.le_refl _, Nat.le_refl _⟩ ⟨_, rfl, rfl, rfl, rfl, Or.inl ⟨rfl, m, by omega, rfl⟩⟩
set_option maxHeartbeats 4000000 in
set_option maxRecDepth 100000 in
/-- append(w, n): n bases more -/
theorem c_Re_append (l : Launch) (E : zE) (Γ : zG) (n : Nat) (M : zM) (r b c k : Nat) (w : Int32) (hr : Γ r = some (0, 5)) (hb : Γ b = some (1, 160)) (hrb : zr M r 0 = b) (hb0 : 0 < b) (hc : zi M r 1 = nI c) (hk : c + k ≤ 160) (hk16 : k ≤ 16) (hne : r ≠ b) :
    zCt l E Y_Re_append 0 (0, 0) [.ref r, .int w, .int (nI k)] Γ n M (zPv Γ n (fun M' => M'.2 = M.2 ∧ (∀ a, a ≠ r → a ≠ b → M'.1 a = M.1 a) ∧ (zi M' r 1 = nI (c + k)) ∧ (∀ j, j < c → zi M' b j = zi M b j) ∧ ∀ j, j < k → zi M' b (c + j) = nI (mDig w j))) := by
  refine zCt.of [(0, .ref r), (1, .int w), (2, .int (nI k))] (by decide) (Nat.le_of_ble_eq_true rfl) rfl (fun f hfl hx hQ => ?_)
  have loop : ∀ (i : Nat) (M1 : zM), i ≤ k → (M1.2 = M.2 ∧ (∀ a, a ≠ r → a ≠ b → M1.1 a = M.1 a) ∧ (zi M1 r 1 = nI (c + i)) ∧ (∀ j, j < c → zi M1 b j = zi M b j) ∧ ∀ j, j < i → zi M1 b (c + j) = nI (mDig w j)) → zGo f E Γ n (0, 0) M1 2 [(3, .int (nI i)), (0, .ref r), (1, .int w), (2, .int (nI k))] [] := by
    refine z_lp (fun i => k - i) _ ?_
    intro i M1 ih hi hI
    have hrb1 : zr M1 r 0 = b := by
      have h9 : M1.2.2 = M.2.2 := by rw [hI.1]
      show M1.2.2 r 0 = b
      rw [h9]; exact hrb
    have hc1 := hI.2.2.1
    refine g_iload_n (q := 3) hx d_Re_append_2 rfl rfl ?_
    refine g_iload_n (q := 4) hx d_Re_append_3 rfl rfl ?_
    refine g_icmp_ge (q := 7) (t := 49) hx d_Re_append_4 rfl rfl (nI_leI (by omega) (by omega)) (fun h4 => ?_) (fun h4 => ?_)
    · exact g_vret hx d_Re_append_49 rfl hQ ⟨Nat.le_refl _, Nat.le_refl _⟩ ⟨rfl, rfl, rfl, by first | (have e : i = k := by omega); subst e; exact hI | (exfalso; omega)⟩
    · refine g_aload_n (q := 8) hx d_Re_append_7 rfl rfl ?_
      refine g_geti (q := 11) hx d_Re_append_8 rfl fl_Re_15 (by assumption) (by assumption) ?_
      refine g_sipush (q := 14) (v := nI 160) hx d_Re_append_11 rfl (by decide) ?_
      refine g_icmp_ge (q := 17) (t := 49) hx d_Re_append_14 rfl rfl (nI_leI (by omega) (by omega)) (fun h14 => ?_) (fun h14 => ?_)
      · exact g_vret hx d_Re_append_49 rfl hQ ⟨Nat.le_refl _, Nat.le_refl _⟩ ⟨rfl, rfl, rfl, by first | (have e : i = k := by omega); subst e; exact hI | (exfalso; omega)⟩
      · refine g_aload_n (q := 18) hx d_Re_append_17 rfl rfl ?_
        refine g_geta (q := 21) hx d_Re_append_18 rfl fl_Re_9 (by assumption) (by assumption) (by omega) ?_
        refine g_aload_n (q := 22) hx d_Re_append_21 rfl rfl ?_
        refine g_geti (q := 25) hx d_Re_append_22 rfl fl_Re_15 (by assumption) (by assumption) ?_
        refine g_iload_n (q := 26) hx d_Re_append_25 rfl rfl ?_
        refine g_iconst (q := 27) (v := nI 2) hx d_Re_append_26 rfl (by decide) ?_
        refine g_iload_n (q := 28) hx d_Re_append_27 rfl rfl ?_
        refine g_imul (q := 29) hx d_Re_append_28 rfl (pk_mul _ _) ?_
        refine g_iushr (q := 30) hx d_Re_append_29 rfl rfl ?_
        refine g_iconst (q := 31) (v := nI 3) hx d_Re_append_30 rfl (by decide) ?_
        refine g_iand (q := 32) hx d_Re_append_31 rfl (z_dig _ (by omega)) ?_
        refine g_iast (q := 33) hx d_Re_append_32 rfl (by assumption) rfl (by omega) (by decide) ?_
        refine g_aload_n (q := 34) hx d_Re_append_33 rfl rfl ?_
        refine g_dup (q := 35) hx d_Re_append_34 rfl rfl ?_
        refine g_geti (q := 38) hx d_Re_append_35 rfl fl_Re_15 (by assumption) ((zi_a hne).trans hc1) ?_
        refine g_iconst (q := 39) (v := nI 1) hx d_Re_append_38 rfl (by decide) ?_
        refine g_iadd (q := 40) hx d_Re_append_39 rfl (nI_add _ _) ?_
        refine g_puti (q := 43) hx d_Re_append_40 rfl fl_Re_15 nf_5_1 (by assumption) ?_
        refine g_iinc (q := 46) (lc' := [(3, _), (0, _), (1, _), (2, _)]) hx d_Re_append_43 rfl rfl (z_inc _) (by decide) rfl ?_
        refine g_goto (q := 2) hx d_Re_append_46 rfl ?_
        refine ih (i + 1) _ (by show k - (i + 1) < k - i; omega) (by show i + 1 ≤ k; omega) ⟨?_, ?_, ?_, ?_, ?_⟩
        · exact hI.1
        · intro a h1 h2
          exact (zi_b h1).trans ((zi_b h2).trans (hI.2.1 a h1 h2))
        · rw [zi_s]; rfl
        · intro j hj
          rw [zi_a hne.symm, zi_k (by omega)]; exact hI.2.2.2.1 j hj
        · intro j hj
          have hj1 : j < i + 1 := hj
          rw [zi_a hne.symm]
          by_cases e : j = i
          · subst e; rw [zi_s]
          · rw [zi_k (by omega)]; exact hI.2.2.2.2 j (by omega)
  refine g_iconst (q := 1) (v := nI 0) hx d_Re_append_0 rfl (by decide) ?_
  refine g_istore_n (q := 2) (lc' := [(3, _), (0, _), (1, _), (2, _)]) hx d_Re_append_1 rfl (by decide) rfl ?_
  exact loop 0 M (Nat.zero_le _) ⟨rfl, fun _ _ _ => rfl, by show zi M r 1 = nI (c + 0); exact hc, fun _ _ => rfl, fun j hj => absurd hj (Nat.not_lt_zero _)⟩
