set_option maxHeartbeats 4000000 in
set_option maxRecDepth 100000 in
/-- new ReadRow(N), the object just before -/
theorem c_Rr_init (l : Launch) (E : zE) (Γ : zG) (M : zM) (a N : Nat) (hg : Γ a = some (0, 4)) (ha : 0 < a) (hN : N ≤ 100) : zCt l E Y_Rr_init 2 (1 + 4 * N, 52 * N) [.ref a, .int (nI N)] Γ (a + 1) M (zPc (fun Γ' n' M' => n' = a + 2 + 4 * N ∧ (∀ b, b < a + 1 → Γ' b = Γ b) ∧ pRrS Γ' M'.2.2 a N ∧ zi M' a 1 = nI 0 ∧ ∀ b, b < a → M'.1 b = M.1 b ∧ M'.2.1 b = M.2.1 b ∧ M'.2.2 b = M.2.2 b)) := by
  refine zCt.of [(0, .ref a), (1, .int (nI N))] (by decide) (Nat.le_of_ble_eq_true rfl) rfl (fun f hfl hx hQ => ?_)
  have loop : ∀ (i : Nat) (M1 : zM), ∀ (Γ1 : zG), i ≤ N → (∀ b, b < a + 1 → Γ1 b = Γ b) → Γ1 (a + 1) = some (3, N) → zr M1 a 0 = a + 1 → zi M1 a 1 = nI 0 → (∀ j, j < i → M1.2.2 (a + 1) j = a + 2 + 4 * j ∧ pSh Γ1 M1.2.2 (a + 2 + 4 * j)) → (∀ b, b < a → M1.1 b = M.1 b ∧ M1.2.1 b = M.2.1 b ∧ M1.2.2 b = M.2.2 b) → zGo f E Γ1 (a + 2 + 4 * i) (1 + 4 * i, N + 51 * i) M1 19 [(2, .int (nI i)), (0, .ref a), (1, .int (nI N))] [] := by
    refine z_lp (fun i => N - i) _ ?_
    intro i M1 ih Γ1 hi i1 hgi i3 i4 i5 i6
    have hga : Γ1 a = some (0, 4) := (i1 a (by omega)).trans hg
    refine g_iload_n (q := 20) hx d_Rr_init_19 rfl rfl ?_
    refine g_iload_n (q := 21) hx d_Rr_init_20 rfl rfl ?_
    refine g_icmp_ge (q := 24) (t := 43) hx d_Rr_init_21 rfl rfl (nI_leI (by omega) (by omega)) (fun h21 => ?_) (fun h21 => ?_)
    · obtain rfl : i = N := (by omega)
      exact g_vret hx d_Rr_init_43 rfl hQ ⟨by dsimp only; omega, by dsimp only; omega⟩ ⟨rfl, rfl, i1, ⟨hga, hgi, i3, fun j hj => i5 j hj⟩, i4, i6⟩
    · refine g_aload_n (q := 25) hx d_Rr_init_24 rfl rfl ?_
      refine g_geta (q := 28) hx d_Rr_init_25 rfl fl_Rr_15 hga i3 (by first | exact Nat.succ_ne_zero _ | omega) ?_
      refine g_iload_n (q := 29) hx d_Rr_init_28 rfl rfl ?_
      refine g_new (q := 32) (c := 3) hx d_Rr_init_29 rfl rfl nl_Rr_13 ins_3 ini_3 (by dsimp only; omega) (by dsimp only; omega) (fun hlo => ?_)
      have hgn : va_up Γ1 (a + 2 + 4 * i) (some (0, 3)) (a + 2 + 4 * i) = some (0, 3) := if_pos rfl
      refine g_dup (q := 33) hx d_Rr_init_32 rfl rfl ?_
      refine g_cc (q := 36) (zrunI hx d_Rr_init_33 lk_Rr_19 rfl rfl (Nat.le_of_ble_eq_true rfl) (by omega) (by dsimp only; omega) (by dsimp only; omega) (c_Rd_init _ E _ (a + 2 + 4 * i + 1) _ (a + 2 + 4 * i) hgn (by omega))) rfl (fun Γ3 n3 M3 p3 => ?_)
      obtain ⟨e1, e2, e3⟩ := p3
      have f1 : ∀ b, b < a + 2 + 4 * i → Γ3 b = Γ1 b := fun b hb => by
        rw [e1, va_up_ne _ _ (by omega), va_up_ne _ _ (by omega), va_up_ne _ _ (by omega), va_up_ne _ _ (by omega)]
      have f2 : Γ3 (a + 2 + 4 * i) = some (0, 3) ∧ Γ3 (a + 2 + 4 * i + 1) = some (1, 12) ∧ Γ3 (a + 2 + 4 * i + 2) = some (1, 12) ∧ Γ3 (a + 2 + 4 * i + 3) = some (1, 20) := by
        rw [e1]
        refine ⟨?_, ?_, ?_, ?_⟩
        · rw [va_up_ne _ _ (by omega), va_up_ne _ _ (by omega), va_up_ne _ _ (by omega)]; exact hgn
        · rw [va_up_ne _ _ (by omega), va_up_ne _ _ (by omega)]; exact if_pos rfl
        · rw [va_up_ne _ _ (by omega)]; exact if_pos rfl
        · exact if_pos rfl
      have f3 : ∀ b, b < a + 2 + 4 * i → M3.1 b = M1.1 b ∧ M3.2.1 b = M1.2.1 b ∧ M3.2.2 b = M1.2.2 b := fun b hb => by
        rw [e3]
        refine ⟨?_, ?_, ?_⟩
        · rw [zi_b (by omega), zi_b (by omega), zi_b (by omega), zi_b (by omega)]
          exact (va_up_ne _ _ (by omega)).trans ((va_up_ne _ _ (by omega)).trans ((va_up_ne _ _ (by omega)).trans (va_up_ne _ _ (by omega))))
        · exact (va_up_ne _ _ (by omega)).trans ((va_up_ne _ _ (by omega)).trans ((va_up_ne _ _ (by omega)).trans (va_up_ne _ _ (by omega))))
        · exact (va_up_ne _ _ (by omega)).trans ((va_up_ne _ _ (by omega)).trans ((va_up_ne _ _ (by omega)).trans ((va_up_ne _ _ (by omega)).trans ((va_up_ne _ _ (by omega)).trans ((va_up_ne _ _ (by omega)).trans (va_up_ne _ _ (by omega)))))))
      have f4 : M3.2.2 (a + 2 + 4 * i) 0 = a + 2 + 4 * i + 1 ∧ M3.2.2 (a + 2 + 4 * i) 1 = a + 2 + 4 * i + 2 ∧ M3.2.2 (a + 2 + 4 * i) 2 = a + 2 + 4 * i + 3 := by
        rw [e3]
        have d1 : ¬ a + 2 + 4 * i = a + 2 + 4 * i + 1 + 2 := by omega
        have d2 : ¬ a + 2 + 4 * i = a + 2 + 4 * i + 1 + 1 := by omega
        simp [zsi, zsr, zpush, va_up, d1, d2]
      clear e1 e3
      subst e2
      refine g_aast (q := 37) hx d_Rr_init_36 rfl ((f1 _ (by omega)).trans hgi) rfl (by omega) (by omega) f2.1 (by omega) ?_
      refine g_iinc (q := 40) (lc' := [(2, _), (0, _), (1, _)]) hx d_Rr_init_37 rfl rfl (z_inc _) (by decide) rfl ?_
      refine g_goto (q := 19) hx d_Rr_init_40 rfl ?_
      refine (show zGo f E Γ3 (a + 2 + 4 * (i + 1)) (1 + 4 * (i + 1), N + 51 * (i + 1)) (zsr M3 (a + 1) i (a + 2 + 4 * i)) 19 _ _ from ?_)
      refine ih (i + 1) _ (by show N - (i + 1) < N - i; omega) Γ3 (by omega) (fun b hb => (f1 b (by omega)).trans (i1 b hb)) ((f1 _ (by omega)).trans hgi) ?_ ?_ (fun j hj => ?_) (fun b hb => ?_)
      · show va_up M3.2.2 (a + 1) _ a 0 = a + 1
        rw [va_up_ne _ _ (by omega), (f3 a (by omega)).2.2]; exact i3
      · show M3.1 a 1 = nI 0
        rw [(f3 a (by omega)).1]; exact i4
      · by_cases e : j = i
        · subst e
          refine ⟨zr_s _ _ _ _, ⟨f2, ?_⟩⟩
          show va_up M3.2.2 (a + 1) _ (a + 2 + 4 * j) 0 = _ ∧ va_up M3.2.2 (a + 1) _ (a + 2 + 4 * j) 1 = _ ∧ va_up M3.2.2 (a + 1) _ (a + 2 + 4 * j) 2 = _ ∧ _
          rw [va_up_ne _ _ (by omega)]
          exact ⟨f4.1, f4.2.1, f4.2.2, by omega⟩
        · obtain ⟨g1, g2⟩ := i5 j (by omega)
          refine ⟨(zr_k e).trans (by show M3.2.2 (a + 1) j = _; rw [(f3 _ (by omega)).2.2]; exact g1), ?_⟩
          unfold pSh at g2 ⊢
          rw [f1 _ (by omega), f1 _ (by omega), f1 _ (by omega), f1 _ (by omega)]
          show _ ∧ va_up M3.2.2 (a + 1) _ (a + 2 + 4 * j) 0 = _ ∧ va_up M3.2.2 (a + 1) _ (a + 2 + 4 * j) 1 = _ ∧ va_up M3.2.2 (a + 1) _ (a + 2 + 4 * j) 2 = _ ∧ _
          rw [va_up_ne _ _ (by omega), (f3 _ (by omega)).2.2]
          exact g2
      · have h9 := f3 b (by omega)
        have h8 := i6 b hb
        exact ⟨h9.1.trans h8.1, h9.2.1.trans h8.2.1, (va_up_ne _ _ (by omega)).trans (h9.2.2.trans h8.2.2)⟩
  refine g_aload_n (q := 1) hx d_Rr_init_0 rfl rfl ?_
  refine g_objInit (q := 4) hx d_Rr_init_1 rfl (by decide) oil_Rr_1 oi_im oi_co (Nat.le_of_ble_eq_true rfl) ?_
  refine g_aload_n (q := 5) hx d_Rr_init_4 rfl rfl ?_
  refine g_iconst (q := 6) (v := nI 0) hx d_Rr_init_5 rfl (by decide) ?_
  refine g_puti (q := 9) hx d_Rr_init_6 rfl fl_Rr_7 nf_4_1 hg ?_
  refine g_aload_n (q := 10) hx d_Rr_init_9 rfl rfl ?_
  refine g_iload_n (q := 11) hx d_Rr_init_10 rfl rfl ?_
  refine g_newr (q := 14) hx d_Rr_init_11 rfl rfl (by omega) nl_Rr_13 (by dsimp only; omega) (by dsimp only; omega) (fun hlo => ?_)
  have hg2 : va_up Γ (a + 1) (some (3, N)) a = some (0, 4) := (va_up_ne _ _ (by omega)).trans hg
  refine g_putFa (q := 17) hx d_Rr_init_14 rfl fl_Rr_15 fi_4_0 rfl hg2 (by omega) (by decide +kernel) ?_
  refine g_iconst (q := 18) (v := nI 0) hx d_Rr_init_17 rfl (by decide) ?_
  refine g_istore_n (q := 19) (lc' := [(2, _), (0, _), (1, _)]) hx d_Rr_init_18 rfl (by decide) rfl ?_
  have hz0 : (0 + 1, 0 + N) = (1 + 4 * 0, N + 51 * 0) := by simp
  rw [hz0]
  exact (show zGo f E (va_up Γ (a + 1) (some (3, N))) (a + 2 + 4 * 0) (1 + 4 * 0, N + 51 * 0) _ 19 _ _ from loop 0 _ _ (Nat.zero_le _) (fun b hb => va_up_ne _ _ (by omega)) (if_pos rfl) (zr_s _ _ _ _) (by show va_up (va_up M.1 a _) (a + 1) _ a 1 = nI 0; rw [va_up_ne _ _ (by omega)]; exact zi_s M a 1 (nI 0)) (fun j hj => absurd hj (Nat.not_lt_zero _)) (fun b hb => ⟨(va_up_ne _ _ (by omega)).trans (va_up_ne _ _ (by omega)), va_up_ne _ _ (by omega), (va_up_ne _ _ (by omega)).trans (va_up_ne _ _ (by omega))⟩))
