set_option maxHeartbeats 4000000 in
set_option maxRecDepth 100000 in
theorem c_Rd_init (l : Launch) (E : zE) (Γ : zG) (n : Nat) (M : zM) (a : Nat) (hg : Γ a = some (0, 3)) (han : a < n) : zCt l E Y_Rd_init 1 (3, 44) [.ref a] Γ n M (zPc (fun Γ' n' M' => Γ' = (va_up (va_up (va_up Γ n (some (1, 12))) (n + 1) (some (1, 12))) (n + 2) (some (1, 20))) ∧ n' = n + 3 ∧ M' = zsi (zsi (zsi (zsi (zsr (zpush (zsr (zpush (zsr (zpush M n) a 0 n) (n + 1)) a 1 (n + 1)) (n + 2)) a 2 (n + 2)) a 3 (nI 0)) a 4 (nI 0)) a 5 (nI 0)) a 6 (nI 0))) := by
  refine zCt.of [(0, .ref a)] (by decide) (Nat.le_of_ble_eq_true rfl) rfl (fun f hfl hx hQ => ?_)
  refine g_aload_n (q := 1) hx d_Rd_init_0 rfl rfl ?_
  refine g_objInit (q := 4) hx d_Rd_init_1 rfl (by decide) oil_Rd_3 oi_im oi_co (Nat.le_of_ble_eq_true rfl) ?_
  refine g_aload_n (q := 5) hx d_Rd_init_4 rfl rfl ?_
  refine g_bipush (q := 7) (v := nI 12) hx d_Rd_init_5 rfl (by decide) ?_
  refine g_newi (q := 9) hx d_Rd_init_7 rfl rfl (by decide) ac_int (by decide) (by decide) (fun hlo0 => ?_)
  have hg0 : va_up Γ n (some (1, 12)) a = some (0, 3) := (va_up_ne _ _ (by omega)).trans hg
  refine g_putFa (q := 12) hx d_Rd_init_9 rfl fl_Rd_9 fi_3_0 rfl hg0 (by omega) (by decide +kernel) ?_
  refine g_aload_n (q := 13) hx d_Rd_init_12 rfl rfl ?_
  refine g_bipush (q := 15) (v := nI 12) hx d_Rd_init_13 rfl (by decide) ?_
  refine g_newi (q := 17) hx d_Rd_init_15 rfl rfl (by decide) ac_int (by decide) (by decide) (fun hlo1 => ?_)
  have hg1 : va_up (va_up Γ n (some (1, 12))) (n + 1) (some (1, 12)) a = some (0, 3) := (va_up_ne _ _ (by omega)).trans hg0
  refine g_putFa (q := 20) hx d_Rd_init_17 rfl fl_Rd_15 fi_3_1 rfl hg1 (by omega) (by decide +kernel) ?_
  refine g_aload_n (q := 21) hx d_Rd_init_20 rfl rfl ?_
  refine g_bipush (q := 23) (v := nI 20) hx d_Rd_init_21 rfl (by decide) ?_
  refine g_newi (q := 25) hx d_Rd_init_23 rfl rfl (by decide) ac_int (by decide) (by decide) (fun hlo2 => ?_)
  have hg2 : va_up (va_up (va_up Γ n (some (1, 12))) (n + 1) (some (1, 12))) (n + 2) (some (1, 20)) a = some (0, 3) := (va_up_ne _ _ (by omega)).trans hg1
  refine g_putFa (q := 28) hx d_Rd_init_25 rfl fl_Rd_18 fi_3_2 rfl hg2 (by omega) (by decide +kernel) ?_
  refine g_aload_n (q := 29) hx d_Rd_init_28 rfl rfl ?_
  refine g_iconst (q := 30) (v := nI 0) hx d_Rd_init_29 rfl (by decide) ?_
  refine g_puti (q := 33) hx d_Rd_init_30 rfl fl_Rd_21 nf_3_3 hg2 ?_
  refine g_aload_n (q := 34) hx d_Rd_init_33 rfl rfl ?_
  refine g_iconst (q := 35) (v := nI 0) hx d_Rd_init_34 rfl (by decide) ?_
  refine g_puti (q := 38) hx d_Rd_init_35 rfl fl_Rd_25 nf_3_4 hg2 ?_
  refine g_aload_n (q := 39) hx d_Rd_init_38 rfl rfl ?_
  refine g_iconst (q := 40) (v := nI 0) hx d_Rd_init_39 rfl (by decide) ?_
  refine g_puti (q := 43) hx d_Rd_init_40 rfl fl_Rd_28 nf_3_5 hg2 ?_
  refine g_aload_n (q := 44) hx d_Rd_init_43 rfl rfl ?_
  refine g_iconst (q := 45) (v := nI 0) hx d_Rd_init_44 rfl (by decide) ?_
  refine g_puti (q := 48) hx d_Rd_init_45 rfl fl_Rd_31 nf_3_6 hg2 ?_
  exact g_vret hx d_Rd_init_48 rfl hQ ⟨by decide, by decide⟩ ⟨rfl, rfl, rfl, rfl⟩
set_option maxHeartbeats 4000000 in
set_option maxRecDepth 100000 in
theorem c_Co_initE (l : Launch) (E : zE) (Γ : zG) (n : Nat) (M : zM) (a : Nat) (hg : Γ a = some (0, 2)) (han : a < n) : zCt l E Y_Co_init 1 (1, 58) [.ref a] Γ n M (zPc (fun Γ' n' M' => Γ' = va_up Γ n (some (1, 58)) ∧ n' = n + 1 ∧ M' = zsl (zsr (zpush M n) a 0 n) a 1 (lN 4294967295))) := by
  refine zCt.of [(0, .ref a)] (by decide) (Nat.le_of_ble_eq_true rfl) rfl (fun f hfl hx hQ => ?_)
  refine g_aload_n (q := 1) hx d_Co_init_0 rfl rfl ?_
  refine g_objInit (q := 4) hx d_Co_init_1 rfl (by decide) oil_Co_3 oi_im oi_co (Nat.le_of_ble_eq_true rfl) ?_
  refine g_aload_n (q := 5) hx d_Co_init_4 rfl rfl ?_
  refine g_bipush (q := 7) (v := nI 58) hx d_Co_init_5 rfl (by decide) ?_
  refine g_newi (q := 9) hx d_Co_init_7 rfl rfl (by decide) ac_int (by decide) (by decide) (fun hlo => ?_)
  have hg0 : va_up Γ n (some (1, 58)) a = some (0, 2) := (va_up_ne _ _ (by omega)).trans hg
  refine g_putFa (q := 12) hx d_Co_init_9 rfl fl_Co_9E fi_2_0 rfl hg0 (by omega) (by decide +kernel) ?_
  refine g_aload_n (q := 13) hx d_Co_init_12 rfl rfl ?_
  refine g_ldc2 (q := 16) (v := lN 4294967295) hx d_Co_init_13 rfl ct_Co_15 ?_
  refine g_putl (q := 19) hx d_Co_init_16 rfl fl_Co_17E nf_2_1 hg0 ?_
  exact g_vret hx d_Co_init_19 rfl hQ ⟨by decide, by decide⟩ ⟨rfl, rfl, rfl, rfl⟩
set_option maxHeartbeats 4000000 in
set_option maxRecDepth 100000 in
theorem c_Co_initD (l : Launch) (E : zE) (Γ : zG) (n : Nat) (M : zM) (a : Nat) (hg : Γ a = some (0, 1)) (han : a < n) : zCt l E Y_Co_init 1 (1, 58) [.ref a] Γ n M (zPc (fun Γ' n' M' => Γ' = va_up Γ n (some (1, 58)) ∧ n' = n + 1 ∧ M' = zsl (zsr (zpush M n) a 0 n) a 1 (lN 4294967295))) := by
  refine zCt.of [(0, .ref a)] (by decide) (Nat.le_of_ble_eq_true rfl) rfl (fun f hfl hx hQ => ?_)
  refine g_aload_n (q := 1) hx d_Co_init_0 rfl rfl ?_
  refine g_objInit (q := 4) hx d_Co_init_1 rfl (by decide) oil_Co_3 oi_im oi_co (Nat.le_of_ble_eq_true rfl) ?_
  refine g_aload_n (q := 5) hx d_Co_init_4 rfl rfl ?_
  refine g_bipush (q := 7) (v := nI 58) hx d_Co_init_5 rfl (by decide) ?_
  refine g_newi (q := 9) hx d_Co_init_7 rfl rfl (by decide) ac_int (by decide) (by decide) (fun hlo => ?_)
  have hg0 : va_up Γ n (some (1, 58)) a = some (0, 1) := (va_up_ne _ _ (by omega)).trans hg
  refine g_putFa (q := 12) hx d_Co_init_9 rfl fl_Co_9D fi_1_0 rfl hg0 (by omega) (by decide +kernel) ?_
  refine g_aload_n (q := 13) hx d_Co_init_12 rfl rfl ?_
  refine g_ldc2 (q := 16) (v := lN 4294967295) hx d_Co_init_13 rfl ct_Co_15 ?_
  refine g_putl (q := 19) hx d_Co_init_16 rfl fl_Co_17D nf_1_1 hg0 ?_
  exact g_vret hx d_Co_init_19 rfl hQ ⟨by decide, by decide⟩ ⟨rfl, rfl, rfl, rfl⟩
set_option maxHeartbeats 4000000 in
set_option maxRecDepth 100000 in
theorem c_En_init (l : Launch) (E : zE) (Γ : zG) (n : Nat) (M : zM) (a : Nat) (hg : Γ a = some (0, 2)) (han : a < n) : zCt l E Y_En_init 2 (2, 318) [.ref a] Γ n M (zPc (fun Γ' n' M' => Γ' = va_up (va_up Γ n (some (1, 58))) (n + 1) (some (1, 260)) ∧ n' = n + 2 ∧ M' = zsl (zsi (zsr (zpush (zsl (zsr (zpush M n) a 0 n) a 1 (lN 4294967295)) (n + 1)) a 2 (n + 1)) a 3 (nI 0)) a 4 (lN 0))) := by
  refine zCt.of [(0, .ref a)] (by decide) (Nat.le_of_ble_eq_true rfl) rfl (fun f hfl hx hQ => ?_)
  refine g_aload_n (q := 1) hx d_En_init_0 rfl rfl ?_
  refine g_cc (q := 4) (zrunI hx d_En_init_1 lk_En_3 rfl rfl (Nat.le_of_ble_eq_true rfl) (by decide) (by decide) (by decide) (c_Co_initE _ E Γ n _ a hg han)) rfl (fun Γ1 n1 M1 p1 => ?_)
  obtain ⟨rfl, rfl, rfl⟩ := p1
  have hg0 : (va_up Γ n (some (1, 58))) a = some (0, 2) := (va_up_ne _ _ (by omega)).trans hg
  refine g_aload_n (q := 5) hx d_En_init_4 rfl rfl ?_
  refine g_sipush (q := 8) (v := nI 260) hx d_En_init_5 rfl (by decide) ?_
  refine g_newi (q := 10) hx d_En_init_8 rfl rfl (by decide) ac_int (by decide) (by decide) (fun hlo => ?_)
  have hg1 : va_up (va_up Γ n (some (1, 58))) (n + 1) (some (1, 260)) a = some (0, 2) := (va_up_ne _ _ (by omega)).trans hg0
  refine g_putFa (q := 13) hx d_En_init_10 rfl fl_En_9 fi_2_2 rfl hg1 (by omega) (by decide +kernel) ?_
  refine g_aload_n (q := 14) hx d_En_init_13 rfl rfl ?_
  refine g_iconst (q := 15) (v := nI 0) hx d_En_init_14 rfl (by decide) ?_
  refine g_puti (q := 18) hx d_En_init_15 rfl fl_En_15 nf_2_3 hg1 ?_
  refine g_aload_n (q := 19) hx d_En_init_18 rfl rfl ?_
  refine g_lconst (q := 20) (v := lN 0) hx d_En_init_19 rfl (by decide) ?_
  refine g_putl (q := 23) hx d_En_init_20 rfl fl_En_19 nf_2_4 hg1 ?_
  exact g_vret hx d_En_init_23 rfl hQ ⟨by decide, by decide⟩ ⟨rfl, rfl, rfl, rfl⟩
set_option maxHeartbeats 4000000 in
set_option maxRecDepth 100000 in
theorem c_De_init (l : Launch) (E : zE) (Γ : zG) (n : Nat) (M : zM) (a : Nat) (hg : Γ a = some (0, 1)) (han : a < n) : zCt l E Y_De_init 2 (2, 313) [.ref a] Γ n M (zPc (fun Γ' n' M' => Γ' = va_up (va_up Γ n (some (1, 58))) (n + 1) (some (1, 255)) ∧ n' = n + 2 ∧ M' = zsl (zsi (zsi (zsr (zpush (zsl (zsr (zpush M n) a 0 n) a 1 (lN 4294967295)) (n + 1)) a 2 (n + 1)) a 3 (nI 0)) a 4 (nI 0)) a 5 (lN 0))) := by
  refine zCt.of [(0, .ref a)] (by decide) (Nat.le_of_ble_eq_true rfl) rfl (fun f hfl hx hQ => ?_)
  refine g_aload_n (q := 1) hx d_De_init_0 rfl rfl ?_
  refine g_cc (q := 4) (zrunI hx d_De_init_1 lk_De_3 rfl rfl (Nat.le_of_ble_eq_true rfl) (by decide) (by decide) (by decide) (c_Co_initD _ E Γ n _ a hg han)) rfl (fun Γ1 n1 M1 p1 => ?_)
  obtain ⟨rfl, rfl, rfl⟩ := p1
  have hg0 : (va_up Γ n (some (1, 58))) a = some (0, 1) := (va_up_ne _ _ (by omega)).trans hg
  refine g_aload_n (q := 5) hx d_De_init_4 rfl rfl ?_
  refine g_sipush (q := 8) (v := nI 255) hx d_De_init_5 rfl (by decide) ?_
  refine g_newi (q := 10) hx d_De_init_8 rfl rfl (by decide) ac_int (by decide) (by decide) (fun hlo => ?_)
  have hg1 : va_up (va_up Γ n (some (1, 58))) (n + 1) (some (1, 255)) a = some (0, 1) := (va_up_ne _ _ (by omega)).trans hg0
  refine g_putFa (q := 13) hx d_De_init_10 rfl fl_De_9 fi_1_2 rfl hg1 (by omega) (by decide +kernel) ?_
  refine g_aload_n (q := 14) hx d_De_init_13 rfl rfl ?_
  refine g_iconst (q := 15) (v := nI 0) hx d_De_init_14 rfl (by decide) ?_
  refine g_puti (q := 18) hx d_De_init_15 rfl fl_De_15 nf_1_3 hg1 ?_
  refine g_aload_n (q := 19) hx d_De_init_18 rfl rfl ?_
  refine g_iconst (q := 20) (v := nI 0) hx d_De_init_19 rfl (by decide) ?_
  refine g_puti (q := 23) hx d_De_init_20 rfl fl_De_19 nf_1_4 hg1 ?_
  refine g_aload_n (q := 24) hx d_De_init_23 rfl rfl ?_
  refine g_lconst (q := 25) (v := lN 0) hx d_De_init_24 rfl (by decide) ?_
  refine g_putl (q := 28) hx d_De_init_25 rfl fl_De_22 nf_1_5 hg1 ?_
  exact g_vret hx d_De_init_28 rfl hQ ⟨by decide, by decide⟩ ⟨rfl, rfl, rfl, rfl⟩
