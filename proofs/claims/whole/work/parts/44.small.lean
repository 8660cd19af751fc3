set_option maxHeartbeats 4000000 in
set_option maxRecDepth 100000 in
theorem c_Sr_reads (l : Launch) (E : zE) (Γ : zG) (n : Nat) (M : zM) (x sh sp : Nat) (hX : pX Γ M.2.2 x sh sp) : zCt l E Y_Sr_reads 0 (0, 0) [.ref x] Γ n M (zPi Γ n (fun v M' => v = zi M (x + 3) 1 ∧ M' = M)) := by
  refine zCt.of [(0, .ref x)] (by decide) (Nat.le_of_ble_eq_true rfl) rfl (fun f hfl hx hQ => ?_)
  have h0 := hX.1.1
  have hx0 := hX.1.2
  have hf0 := hX.2.2.2.2.1.1
  have hA := hX.2.2.2.2.2.2.2.1
  have hgA := hA.1
  have hR := hX.2.2.2.1
  have q0 : ∀ _ : Unit, zr M x 0 = x + 1 := fun _ => hX.2.1.1
  have q1 : ∀ _ : Unit, zr M x 1 = x + 3 := fun _ => hX.2.1.2.1
  have q4 : ∀ _ : Unit, zr M x 4 = sh := fun _ => hX.2.1.2.2.2.1
  have q6 : ∀ _ : Unit, zr M x 6 = x + 134 := fun _ => hX.2.1.2.2.2.2.2.1
  refine g_aload_n (q := 1) hx d_Sr_reads_0 rfl rfl ?_
  refine g_geto (q := 4) hx d_Sr_reads_1 rfl fl_Sr_21 h0 (q1 ()) (by first | exact Nat.succ_ne_zero _ | omega) ?_
  refine g_geti (q := 7) hx d_Sr_reads_4 rfl fl_Sr_72 hf0 rfl ?_
  exact g_iret hx d_Sr_reads_7 rfl hQ ⟨Nat.le_refl _, Nat.le_refl _⟩ ⟨_, rfl, rfl, rfl, rfl, rfl⟩
set_option maxHeartbeats 4000000 in
set_option maxRecDepth 100000 in
theorem c_Sr_size (l : Launch) (E : zE) (Γ : zG) (n : Nat) (M : zM) (x sh sp : Nat) (hX : pX Γ M.2.2 x sh sp) : zCt l E Y_Sr_size 0 (0, 0) [.ref x] Γ n M (zPi Γ n (fun v M' => v = zi M (x + 134) 1 ∧ M' = M)) := by
  refine zCt.of [(0, .ref x)] (by decide) (Nat.le_of_ble_eq_true rfl) rfl (fun f hfl hx hQ => ?_)
  have h0 := hX.1.1
  have hx0 := hX.1.2
  have hf0 := hX.2.2.2.2.1.1
  have hA := hX.2.2.2.2.2.2.2.1
  have hgA := hA.1
  have hR := hX.2.2.2.1
  have q0 : ∀ _ : Unit, zr M x 0 = x + 1 := fun _ => hX.2.1.1
  have q1 : ∀ _ : Unit, zr M x 1 = x + 3 := fun _ => hX.2.1.2.1
  have q4 : ∀ _ : Unit, zr M x 4 = sh := fun _ => hX.2.1.2.2.2.1
  have q6 : ∀ _ : Unit, zr M x 6 = x + 134 := fun _ => hX.2.1.2.2.2.2.2.1
  refine g_aload_n (q := 1) hx d_Sr_size_0 rfl rfl ?_
  refine g_geto (q := 4) hx d_Sr_size_1 rfl fl_Sr_44 h0 (q6 ()) (by first | exact Nat.succ_ne_zero _ | omega) ?_
  refine g_geti (q := 7) hx d_Sr_size_4 rfl fl_Sr_150 hgA rfl ?_
  exact g_iret hx d_Sr_size_7 rfl hQ ⟨Nat.le_refl _, Nat.le_refl _⟩ ⟨_, rfl, rfl, rfl, rfl, rfl⟩
set_option maxHeartbeats 4000000 in
set_option maxRecDepth 100000 in
theorem c_Sr_blocks (l : Launch) (E : zE) (Γ : zG) (n : Nat) (M : zM) (x sh sp : Nat) (hX : pX Γ M.2.2 x sh sp) (size : Nat) (arch : Nat → Nat) (har : pAr M (x + 134) size arch) : zCt l E Y_Sr_blocks 3 (0, 0) [.ref x] Γ n M (zPi Γ n (fun v M' => M' = M ∧ ∃ i : Nat, v = nI i ∧ size ≤ mBeg arch size i ∧ ∀ j, j < i → mBeg arch size j < size)) := by
  refine zCt.of [(0, .ref x)] (by decide) (Nat.le_of_ble_eq_true rfl) rfl (fun f hfl hx hQ => ?_)
  have h0 := hX.1.1
  have hx0 := hX.1.2
  have hf0 := hX.2.2.2.2.1.1
  have hA := hX.2.2.2.2.2.2.2.1
  have hgA := hA.1
  have hR := hX.2.2.2.1
  have q0 : ∀ _ : Unit, zr M x 0 = x + 1 := fun _ => hX.2.1.1
  have q1 : ∀ _ : Unit, zr M x 1 = x + 3 := fun _ => hX.2.1.2.1
  have q4 : ∀ _ : Unit, zr M x 4 = sh := fun _ => hX.2.1.2.2.2.1
  have q6 : ∀ _ : Unit, zr M x 6 = x + 134 := fun _ => hX.2.1.2.2.2.2.2.1
  refine g_aload_n (q := 1) hx d_Sr_blocks_0 rfl rfl ?_
  refine g_geto (q := 4) hx d_Sr_blocks_1 rfl fl_Sr_44 h0 (q6 ()) (by first | exact Nat.succ_ne_zero _ | omega) ?_
  refine g_ci (q := 7) (zrunV hx d_Sr_blocks_4 lk_Sr_170 rfl rfl (by assumption) rfl rfl (Nat.le_of_ble_eq_true rfl) (by decide) (by omega) (by omega) (c_Ar_countBegins _ E Γ n _ (x + 134) size arch hA har)) rfl (fun r4 M4 p4 => ?_)
  obtain ⟨rfl, p4⟩ := p4
  exact g_iret hx d_Sr_blocks_7 rfl hQ ⟨Nat.le_refl _, Nat.le_refl _⟩ ⟨_, rfl, rfl, rfl, rfl, p4⟩
set_option maxHeartbeats 4000000 in
set_option maxRecDepth 100000 in
theorem c_Sr_clear (l : Launch) (E : zE) (Γ : zG) (n : Nat) (M : zM) (x sh sp : Nat) (hX : pX Γ M.2.2 x sh sp) (z : Int32) : zCt l E Y_Sr_clear 0 (0, 0) [.ref x, .int z] Γ n M (zPv Γ n (fun M' => M' = if z = 0 then zsi (zsi M (x + 3) 1 (nI 0)) x 2 (nI 0) else zsi (zsi (zsi (zsi M (x + 3) 1 (nI 0)) x 2 (nI 0)) (x + 1) 1 (nI 0)) sh 1 (nI 0))) := by
  refine zCt.of [(0, .ref x), (1, .int z)] (by decide) (Nat.le_of_ble_eq_true rfl) rfl (fun f hfl hx hQ => ?_)
  have h0 := hX.1.1
  have hx0 := hX.1.2
  have hf0 := hX.2.2.2.2.1.1
  have hA := hX.2.2.2.2.2.2.2.1
  have hgA := hA.1
  have hR := hX.2.2.2.1
  have q0 : ∀ _ : Unit, zr M x 0 = x + 1 := fun _ => hX.2.1.1
  have q1 : ∀ _ : Unit, zr M x 1 = x + 3 := fun _ => hX.2.1.2.1
  have q4 : ∀ _ : Unit, zr M x 4 = sh := fun _ => hX.2.1.2.2.2.1
  have q6 : ∀ _ : Unit, zr M x 6 = x + 134 := fun _ => hX.2.1.2.2.2.2.2.1
  have hsh := hX.2.2.2.2.2.2.1.1
  have hsh0 : sh ≠ 0 := by have := hX.2.2.1; omega
  refine g_aload_n (q := 1) hx d_Sr_clear_0 rfl rfl ?_
  refine g_geto (q := 4) hx d_Sr_clear_1 rfl fl_Sr_21 h0 (q1 ()) (by first | exact Nat.succ_ne_zero _ | omega) ?_
  refine g_iconst (q := 5) (v := nI 0) hx d_Sr_clear_4 rfl (by decide) ?_
  refine g_puti (q := 8) hx d_Sr_clear_5 rfl fl_Sr_72 nf_4_1 hf0 ?_
  refine g_aload_n (q := 9) hx d_Sr_clear_8 rfl rfl ?_
  refine g_iconst (q := 10) (v := nI 0) hx d_Sr_clear_9 rfl (by decide) ?_
  refine g_putz (q := 13) hx d_Sr_clear_10 rfl fl_Sr_25 nf_6_2 h0 (Or.inl rfl) ?_
  refine g_iload_n (q := 14) hx d_Sr_clear_13 rfl rfl ?_
  refine g_if_eq (q := 17) (t := 33) hx d_Sr_clear_14 rfl rfl Iff.rfl (fun h14 => ?_) (fun h14 => ?_)
  · exact g_vret hx d_Sr_clear_33 rfl hQ ⟨Nat.le_refl _, Nat.le_refl _⟩ ⟨rfl, rfl, rfl, by rw [if_pos h14]⟩
  · refine g_aload_n (q := 18) hx d_Sr_clear_17 rfl rfl ?_
    refine g_geto (q := 21) hx d_Sr_clear_18 rfl fl_Sr_12 h0 (q0 ()) (by first | exact Nat.succ_ne_zero _ | omega) ?_
    refine g_iconst (q := 22) (v := nI 0) hx d_Sr_clear_21 rfl (by decide) ?_
    refine g_puti (q := 25) hx d_Sr_clear_22 rfl fl_Sr_81 nf_5_1 hR.1 ?_
    refine g_aload_n (q := 26) hx d_Sr_clear_25 rfl rfl ?_
    refine g_geto (q := 29) hx d_Sr_clear_26 rfl fl_Sr_35 h0 (q4 ()) (by first | exact Nat.succ_ne_zero _ | omega) ?_
    refine g_iconst (q := 30) (v := nI 0) hx d_Sr_clear_29 rfl (by decide) ?_
    refine g_puti (q := 33) hx d_Sr_clear_30 rfl fl_Sr_72 nf_4_1 hsh.1 ?_
    exact g_vret hx d_Sr_clear_33 rfl hQ ⟨Nat.le_refl _, Nat.le_refl _⟩ ⟨rfl, rfl, rfl, by rw [if_neg h14]⟩
