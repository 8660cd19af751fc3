set_option maxHeartbeats 4000000 in
set_option maxRecDepth 100000 in
theorem c_Sr_about1 (l : Launch) (hl : l.stackTraces = false) (E : zE) (Γ : zG) (n : Nat) (M : zM) (x sh sp : Nat) (len c g k size : Nat) (ref arch : Nat → Nat) (fs hs : Nat → mRd) (ur : mRd) (hI : pI Γ M x sh sp len c g k size ref arch fs hs ur) (y w z : Int32) (hy : ¬ ∃ u : Nat, u < (if z = 0 then c else k) ∧ y = nI u) : zCx l E Y_Sr_about 7 (1, 6) [.ref x, .int y, .int w, .int z] Γ n M "java/lang/IndexOutOfBoundsException" (n + 1) (fun M' => M' = M) := by
  refine zCx.of [(0, .ref x), (1, .int y), (2, .int w), (3, .int z)] (by decide) (Nat.le_of_ble_eq_true rfl) rfl (fun f hfl hx hno hQ => ?_)
  have htr : (zll f.1).stackTraces = false := by rw [hfl]; exact hl
  have h0 := hI.1.1.1
  have hx0 := hI.1.1.2
  have hsp := hI.1.2.2.1
  have hc24 := hI.2.2.1.2
  have hg1 := hI.2.2.2.2.1.2
  have hk3 := hI.2.2.2.2.2.2.1.2
  have hl160 := hI.2.1.2.2.1
  have hRs := hI.1.2.2.2.1
  have hF := hI.1.2.2.2.2.1
  have hf0 := hF.1
  have hf1 := hF.2.1
  have hA := hI.1.2.2.2.2.2.2.2.1
  have hcz := hI.2.2.1.1
  have hgz := hI.2.2.2.2.1.1
  have q0 : ∀ _ : Unit, zr M x 0 = x + 1 := fun _ => hI.1.2.1.1
  have q1 : ∀ _ : Unit, zr M x 1 = x + 3 := fun _ => hI.1.2.1.2.1
  have q4 : ∀ _ : Unit, zr M x 4 = sh := fun _ => hI.1.2.1.2.2.2.1
  have q5 : ∀ _ : Unit, zr M x 5 = sp := fun _ => hI.1.2.1.2.2.2.2.1
  have q6 : ∀ _ : Unit, zr M x 6 = x + 134 := fun _ => hI.1.2.1.2.2.2.2.2.1
  have f0 : ∀ _ : Unit, zr M (x + 3) 0 = x + 4 := fun _ => hF.2.2.1
  have fi : ∀ i, i < 25 → zr M (x + 4) i = x + 5 + 4 * i := fun i hi => (hF.2.2.2 i hi).1
  have fs9 : ∀ i, i < 25 → pSh Γ M.2.2 (x + 5 + 4 * i) := fun i hi => (hF.2.2.2 i hi).2
  have hpick : ∃ R NN, (if z = 0 then x + 3 else sh) = R ∧ (x ≤ R ∧ R + 1 + 4 * NN ≤ x + 141) ∧ (if z = 0 then c else k) ≤ NN ∧ NN ≤ 25 ∧ pRrS Γ M.2.2 R NN ∧ zi M R 1 = nI (if z = 0 then c else k) ∧ ∀ i, i < (if z = 0 then c else k) → pRb M (R + 2 + 4 * i) ref len (if z = 0 then fs i else hs i) := by
    by_cases e : z = 0
    · refine ⟨x + 3, 25, if_pos e, by omega, ?_, Nat.le_refl _, hF, ?_, ?_⟩
      · rw [if_pos e]; omega
      · rw [if_pos e]; exact hcz
      · rw [if_pos e]; intro i hi; rw [if_pos e]; exact hI.2.2.2.1 i hi
    · refine ⟨sh, 3, if_neg e, by omega, ?_, by omega, hI.1.2.2.2.2.2.2.1.1, ?_, ?_⟩
      · rw [if_neg e]; omega
      · rw [if_neg e]; exact hI.2.2.2.2.2.2.1.1
      · rw [if_neg e]; intro i hi; rw [if_neg e]; exact hI.2.2.2.2.2.2.2.1 i hi
  obtain ⟨R, NN, hRe, hR9, hNN, hN25, hRow, hRc, hRr⟩ := hpick
  generalize (if z = 0 then c else k) = K at *
  have r0 : ∀ _ : Unit, zr M R 0 = R + 1 := fun _ => hRow.2.2.1
  have ri : ∀ i, i < NN → zr M (R + 1) i = R + 2 + 4 * i := fun i hi => (hRow.2.2.2 i hi).1
  have rs9 : ∀ i, i < NN → pSh Γ M.2.2 (R + 2 + 4 * i) := fun i hi => (hRow.2.2.2 i hi).2
  refine g_iload_n (q := 1) hx d_Sr_about_0 rfl rfl ?_
  refine g_if_eq (q := 4) (t := 11) hx d_Sr_about_1 rfl rfl Iff.rfl (fun h1 => ?_) (fun h1 => ?_)
  · refine g_aload_n (q := 12) hx d_Sr_about_11 rfl rfl ?_
    refine g_geto (q := 15) hx d_Sr_about_12 rfl fl_Sr_21 h0 (show zr M x 1 = R from (q1 ()).trans ((if_pos h1).symm.trans hRe)) (by first | exact Nat.succ_ne_zero _ | omega) ?_
    refine g_astore (q := 17) (lc' := [(4, _), (0, _), (1, _), (2, _), (3, _)]) hx d_Sr_about_15 rfl (by decide) rfl ?_
    refine g_aload (q := 19) hx d_Sr_about_17 rfl rfl ?_
    refine g_iload_n (q := 20) hx d_Sr_about_19 rfl rfl ?_
    refine g_ci (q := 23) (zrunV hx d_Sr_about_20 lk_Sr_124 rfl rfl hRow.1 rfl rfl (Nat.le_of_ble_eq_true rfl) (by decide) (by omega) (by omega) (c_Rr_has _ E Γ n _ R K y hRow.1 hRc (by omega))) rfl (fun r20 M1 p20 => ?_)
    obtain ⟨e20, p20⟩ := p20
    subst M1
    obtain rfl : r20 = nI 0 := (p20.resolve_left (fun q => hy q.2)).1
    clear p20
    refine g_if_ne (q := 26) (t := 36) hx d_Sr_about_23 rfl rfl (zb_ne0 (by omega)) (fun h23 => ?_) (fun h23 => ?_)
    · exact absurd h23 (by omega)
    · exact g_thr (post := (fun M' => M' = M)) (ik := 91) (is := 128) (ic := 95) hx htr hno d_Sr_about_26 d_Sr_about_29 d_Sr_about_30 d_Sr_about_32 d_Sr_about_35 thr_IO zs_128 (by omega) (by decide) (by decide) (Nat.le_of_ble_eq_true rfl) rfl hQ
  · refine g_aload_n (q := 5) hx d_Sr_about_4 rfl rfl ?_
    refine g_geto (q := 8) hx d_Sr_about_5 rfl fl_Sr_35 h0 (show zr M x 4 = R from (q4 ()).trans ((if_neg h1).symm.trans hRe)) (by first | exact Nat.succ_ne_zero _ | omega) ?_
    refine g_goto (q := 15) hx d_Sr_about_8 rfl ?_
    refine g_astore (q := 17) (lc' := [(4, _), (0, _), (1, _), (2, _), (3, _)]) hx d_Sr_about_15 rfl (by decide) rfl ?_
    refine g_aload (q := 19) hx d_Sr_about_17 rfl rfl ?_
    refine g_iload_n (q := 20) hx d_Sr_about_19 rfl rfl ?_
    refine g_ci (q := 23) (zrunV hx d_Sr_about_20 lk_Sr_124 rfl rfl hRow.1 rfl rfl (Nat.le_of_ble_eq_true rfl) (by decide) (by omega) (by omega) (c_Rr_has _ E Γ n _ R K y hRow.1 hRc (by omega))) rfl (fun r20 M1 p20 => ?_)
    obtain ⟨e20, p20⟩ := p20
    subst M1
    obtain rfl : r20 = nI 0 := (p20.resolve_left (fun q => hy q.2)).1
    clear p20
    refine g_if_ne (q := 26) (t := 36) hx d_Sr_about_23 rfl rfl (zb_ne0 (by omega)) (fun h23 => ?_) (fun h23 => ?_)
    · exact absurd h23 (by omega)
    · exact g_thr (post := (fun M' => M' = M)) (ik := 91) (is := 128) (ic := 95) hx htr hno d_Sr_about_26 d_Sr_about_29 d_Sr_about_30 d_Sr_about_32 d_Sr_about_35 thr_IO zs_128 (by omega) (by decide) (by decide) (Nat.le_of_ble_eq_true rfl) rfl hQ
set_option maxHeartbeats 4000000 in
set_option maxRecDepth 100000 in
theorem c_Sr_base1 (l : Launch) (hl : l.stackTraces = false) (E : zE) (Γ : zG) (n : Nat) (M : zM) (x sh sp : Nat) (len c g k size : Nat) (ref arch : Nat → Nat) (fs hs : Nat → mRd) (ur : mRd) (hI : pI Γ M x sh sp len c g k size ref arch fs hs ur) (y w z : Int32) (hy : ¬ ∃ u : Nat, u < (if z = 0 then c else k) ∧ y = nI u) : zCx l E Y_Sr_base 7 (1, 6) [.ref x, .int y, .int w, .int z] Γ n M "java/lang/IndexOutOfBoundsException" (n + 1) (fun M' => M' = M) := by
  refine zCx.of [(0, .ref x), (1, .int y), (2, .int w), (3, .int z)] (by decide) (Nat.le_of_ble_eq_true rfl) rfl (fun f hfl hx hno hQ => ?_)
  have htr : (zll f.1).stackTraces = false := by rw [hfl]; exact hl
  have h0 := hI.1.1.1
  have hx0 := hI.1.1.2
  have hsp := hI.1.2.2.1
  have hc24 := hI.2.2.1.2
  have hg1 := hI.2.2.2.2.1.2
  have hk3 := hI.2.2.2.2.2.2.1.2
  have hl160 := hI.2.1.2.2.1
  have hRs := hI.1.2.2.2.1
  have hF := hI.1.2.2.2.2.1
  have hf0 := hF.1
  have hf1 := hF.2.1
  have hA := hI.1.2.2.2.2.2.2.2.1
  have hcz := hI.2.2.1.1
  have hgz := hI.2.2.2.2.1.1
  have q0 : ∀ _ : Unit, zr M x 0 = x + 1 := fun _ => hI.1.2.1.1
  have q1 : ∀ _ : Unit, zr M x 1 = x + 3 := fun _ => hI.1.2.1.2.1
  have q4 : ∀ _ : Unit, zr M x 4 = sh := fun _ => hI.1.2.1.2.2.2.1
  have q5 : ∀ _ : Unit, zr M x 5 = sp := fun _ => hI.1.2.1.2.2.2.2.1
  have q6 : ∀ _ : Unit, zr M x 6 = x + 134 := fun _ => hI.1.2.1.2.2.2.2.2.1
  have f0 : ∀ _ : Unit, zr M (x + 3) 0 = x + 4 := fun _ => hF.2.2.1
  have fi : ∀ i, i < 25 → zr M (x + 4) i = x + 5 + 4 * i := fun i hi => (hF.2.2.2 i hi).1
  have fs9 : ∀ i, i < 25 → pSh Γ M.2.2 (x + 5 + 4 * i) := fun i hi => (hF.2.2.2 i hi).2
  have hpick : ∃ R NN, (if z = 0 then x + 3 else sh) = R ∧ (x ≤ R ∧ R + 1 + 4 * NN ≤ x + 141) ∧ (if z = 0 then c else k) ≤ NN ∧ NN ≤ 25 ∧ pRrS Γ M.2.2 R NN ∧ zi M R 1 = nI (if z = 0 then c else k) ∧ ∀ i, i < (if z = 0 then c else k) → pRb M (R + 2 + 4 * i) ref len (if z = 0 then fs i else hs i) := by
    by_cases e : z = 0
    · refine ⟨x + 3, 25, if_pos e, by omega, ?_, Nat.le_refl _, hF, ?_, ?_⟩
      · rw [if_pos e]; omega
      · rw [if_pos e]; exact hcz
      · rw [if_pos e]; intro i hi; rw [if_pos e]; exact hI.2.2.2.1 i hi
    · refine ⟨sh, 3, if_neg e, by omega, ?_, by omega, hI.1.2.2.2.2.2.2.1.1, ?_, ?_⟩
      · rw [if_neg e]; omega
      · rw [if_neg e]; exact hI.2.2.2.2.2.2.1.1
      · rw [if_neg e]; intro i hi; rw [if_neg e]; exact hI.2.2.2.2.2.2.2.1 i hi
  obtain ⟨R, NN, hRe, hR9, hNN, hN25, hRow, hRc, hRr⟩ := hpick
  generalize (if z = 0 then c else k) = K at *
  have r0 : ∀ _ : Unit, zr M R 0 = R + 1 := fun _ => hRow.2.2.1
  have ri : ∀ i, i < NN → zr M (R + 1) i = R + 2 + 4 * i := fun i hi => (hRow.2.2.2 i hi).1
  have rs9 : ∀ i, i < NN → pSh Γ M.2.2 (R + 2 + 4 * i) := fun i hi => (hRow.2.2.2 i hi).2
  refine g_iload_n (q := 1) hx d_Sr_base_0 rfl rfl ?_
  refine g_if_eq (q := 4) (t := 11) hx d_Sr_base_1 rfl rfl Iff.rfl (fun h1 => ?_) (fun h1 => ?_)
  · refine g_aload_n (q := 12) hx d_Sr_base_11 rfl rfl ?_
    refine g_geto (q := 15) hx d_Sr_base_12 rfl fl_Sr_21 h0 (show zr M x 1 = R from (q1 ()).trans ((if_pos h1).symm.trans hRe)) (by first | exact Nat.succ_ne_zero _ | omega) ?_
    refine g_astore (q := 17) (lc' := [(4, _), (0, _), (1, _), (2, _), (3, _)]) hx d_Sr_base_15 rfl (by decide) rfl ?_
    refine g_aload (q := 19) hx d_Sr_base_17 rfl rfl ?_
    refine g_iload_n (q := 20) hx d_Sr_base_19 rfl rfl ?_
    refine g_ci (q := 23) (zrunV hx d_Sr_base_20 lk_Sr_124 rfl rfl hRow.1 rfl rfl (Nat.le_of_ble_eq_true rfl) (by decide) (by omega) (by omega) (c_Rr_has _ E Γ n _ R K y hRow.1 hRc (by omega))) rfl (fun r20 M1 p20 => ?_)
    obtain ⟨e20, p20⟩ := p20
    subst M1
    obtain rfl : r20 = nI 0 := (p20.resolve_left (fun q => hy q.2)).1
    clear p20
    refine g_if_ne (q := 26) (t := 36) hx d_Sr_base_23 rfl rfl (zb_ne0 (by omega)) (fun h23 => ?_) (fun h23 => ?_)
    · exact absurd h23 (by omega)
    · exact g_thr (post := (fun M' => M' = M)) (ik := 91) (is := 128) (ic := 95) hx htr hno d_Sr_base_26 d_Sr_base_29 d_Sr_base_30 d_Sr_base_32 d_Sr_base_35 thr_IO zs_128 (by omega) (by decide) (by decide) (Nat.le_of_ble_eq_true rfl) rfl hQ
  · refine g_aload_n (q := 5) hx d_Sr_base_4 rfl rfl ?_
    refine g_geto (q := 8) hx d_Sr_base_5 rfl fl_Sr_35 h0 (show zr M x 4 = R from (q4 ()).trans ((if_neg h1).symm.trans hRe)) (by first | exact Nat.succ_ne_zero _ | omega) ?_
    refine g_goto (q := 15) hx d_Sr_base_8 rfl ?_
    refine g_astore (q := 17) (lc' := [(4, _), (0, _), (1, _), (2, _), (3, _)]) hx d_Sr_base_15 rfl (by decide) rfl ?_
    refine g_aload (q := 19) hx d_Sr_base_17 rfl rfl ?_
    refine g_iload_n (q := 20) hx d_Sr_base_19 rfl rfl ?_
    refine g_ci (q := 23) (zrunV hx d_Sr_base_20 lk_Sr_124 rfl rfl hRow.1 rfl rfl (Nat.le_of_ble_eq_true rfl) (by decide) (by omega) (by omega) (c_Rr_has _ E Γ n _ R K y hRow.1 hRc (by omega))) rfl (fun r20 M1 p20 => ?_)
    obtain ⟨e20, p20⟩ := p20
    subst M1
    obtain rfl : r20 = nI 0 := (p20.resolve_left (fun q => hy q.2)).1
    clear p20
    refine g_if_ne (q := 26) (t := 36) hx d_Sr_base_23 rfl rfl (zb_ne0 (by omega)) (fun h23 => ?_) (fun h23 => ?_)
    · exact absurd h23 (by omega)
    · exact g_thr (post := (fun M' => M' = M)) (ik := 91) (is := 128) (ic := 95) hx htr hno d_Sr_base_26 d_Sr_base_29 d_Sr_base_30 d_Sr_base_32 d_Sr_base_35 thr_IO zs_128 (by omega) (by decide) (by decide) (Nat.le_of_ble_eq_true rfl) rfl hQ
theorem z4o {w : Int32} (h : ¬ ∃ v : Nat, 0 ≤ v ∧ v ≤ 3 ∧ w = nI v) : w.toInt < 0 ∨ 3 < w.toInt := by
  rcases z4 (x := w) with h1 | h1 | ⟨j, h1, h2⟩
  · exact Or.inl h1
  · exact Or.inr h1
  · exact absurd ⟨j, Nat.zero_le _, by omega, h2⟩ h
set_option maxHeartbeats 4000000 in
set_option maxRecDepth 100000 in
theorem c_Sr_about2 (l : Launch) (hl : l.stackTraces = false) (E : zE) (Γ : zG) (n : Nat) (M : zM) (x sh sp : Nat) (len c g k size : Nat) (ref arch : Nat → Nat) (fs hs : Nat → mRd) (ur : mRd) (hI : pI Γ M x sh sp len c g k size ref arch fs hs ur) (u : Nat) (w z : Int32) (hu : u < (if z = 0 then c else k)) (hw : ¬ ∃ v : Nat, 0 ≤ v ∧ v ≤ 3 ∧ w = nI v) : zCx l E Y_Sr_about 7 (1, 6) [.ref x, .int (nI u), .int w, .int z] Γ n M "java/lang/IllegalArgumentException" (n + 1) (fun M' => M' = M) := by
  refine zCx.of [(0, .ref x), (1, .int (nI u)), (2, .int w), (3, .int z)] (by decide) (Nat.le_of_ble_eq_true rfl) rfl (fun f hfl hx hno hQ => ?_)
  have htr : (zll f.1).stackTraces = false := by rw [hfl]; exact hl
  have h0 := hI.1.1.1
  have hx0 := hI.1.1.2
  have hsp := hI.1.2.2.1
  have hc24 := hI.2.2.1.2
  have hg1 := hI.2.2.2.2.1.2
  have hk3 := hI.2.2.2.2.2.2.1.2
  have hl160 := hI.2.1.2.2.1
  have hRs := hI.1.2.2.2.1
  have hF := hI.1.2.2.2.2.1
  have hf0 := hF.1
  have hf1 := hF.2.1
  have hA := hI.1.2.2.2.2.2.2.2.1
  have hcz := hI.2.2.1.1
  have hgz := hI.2.2.2.2.1.1
  have q0 : ∀ _ : Unit, zr M x 0 = x + 1 := fun _ => hI.1.2.1.1
  have q1 : ∀ _ : Unit, zr M x 1 = x + 3 := fun _ => hI.1.2.1.2.1
  have q4 : ∀ _ : Unit, zr M x 4 = sh := fun _ => hI.1.2.1.2.2.2.1
  have q5 : ∀ _ : Unit, zr M x 5 = sp := fun _ => hI.1.2.1.2.2.2.2.1
  have q6 : ∀ _ : Unit, zr M x 6 = x + 134 := fun _ => hI.1.2.1.2.2.2.2.2.1
  have f0 : ∀ _ : Unit, zr M (x + 3) 0 = x + 4 := fun _ => hF.2.2.1
  have fi : ∀ i, i < 25 → zr M (x + 4) i = x + 5 + 4 * i := fun i hi => (hF.2.2.2 i hi).1
  have fs9 : ∀ i, i < 25 → pSh Γ M.2.2 (x + 5 + 4 * i) := fun i hi => (hF.2.2.2 i hi).2
  have hpick : ∃ R NN, (if z = 0 then x + 3 else sh) = R ∧ (x ≤ R ∧ R + 1 + 4 * NN ≤ x + 141) ∧ (if z = 0 then c else k) ≤ NN ∧ NN ≤ 25 ∧ pRrS Γ M.2.2 R NN ∧ zi M R 1 = nI (if z = 0 then c else k) ∧ ∀ i, i < (if z = 0 then c else k) → pRb M (R + 2 + 4 * i) ref len (if z = 0 then fs i else hs i) := by
    by_cases e : z = 0
    · refine ⟨x + 3, 25, if_pos e, by omega, ?_, Nat.le_refl _, hF, ?_, ?_⟩
      · rw [if_pos e]; omega
      · rw [if_pos e]; exact hcz
      · rw [if_pos e]; intro i hi; rw [if_pos e]; exact hI.2.2.2.1 i hi
    · refine ⟨sh, 3, if_neg e, by omega, ?_, by omega, hI.1.2.2.2.2.2.2.1.1, ?_, ?_⟩
      · rw [if_neg e]; omega
      · rw [if_neg e]; exact hI.2.2.2.2.2.2.1.1
      · rw [if_neg e]; intro i hi; rw [if_neg e]; exact hI.2.2.2.2.2.2.2.1 i hi
  obtain ⟨R, NN, hRe, hR9, hNN, hN25, hRow, hRc, hRr⟩ := hpick
  generalize (if z = 0 then c else k) = K at *
  have r0 : ∀ _ : Unit, zr M R 0 = R + 1 := fun _ => hRow.2.2.1
  have ri : ∀ i, i < NN → zr M (R + 1) i = R + 2 + 4 * i := fun i hi => (hRow.2.2.2 i hi).1
  have rs9 : ∀ i, i < NN → pSh Γ M.2.2 (R + 2 + 4 * i) := fun i hi => (hRow.2.2.2 i hi).2
  refine g_iload_n (q := 1) hx d_Sr_about_0 rfl rfl ?_
  refine g_if_eq (q := 4) (t := 11) hx d_Sr_about_1 rfl rfl Iff.rfl (fun h1 => ?_) (fun h1 => ?_)
  · refine g_aload_n (q := 12) hx d_Sr_about_11 rfl rfl ?_
    refine g_geto (q := 15) hx d_Sr_about_12 rfl fl_Sr_21 h0 (show zr M x 1 = R from (q1 ()).trans ((if_pos h1).symm.trans hRe)) (by first | exact Nat.succ_ne_zero _ | omega) ?_
    refine g_astore (q := 17) (lc' := [(4, _), (0, _), (1, _), (2, _), (3, _)]) hx d_Sr_about_15 rfl (by decide) rfl ?_
    refine g_aload (q := 19) hx d_Sr_about_17 rfl rfl ?_
    refine g_iload_n (q := 20) hx d_Sr_about_19 rfl rfl ?_
    refine g_ci (q := 23) (zrunV hx d_Sr_about_20 lk_Sr_124 rfl rfl hRow.1 rfl rfl (Nat.le_of_ble_eq_true rfl) (by decide) (by omega) (by omega) (c_Rr_has _ E Γ n _ R K (nI u) hRow.1 hRc (by omega))) rfl (fun r20 M1 p20 => ?_)
    obtain ⟨e20, p20⟩ := p20
    subst M1
    obtain rfl : r20 = nI 1 := (p20.resolve_right (fun q => q.2 ⟨u, hu, rfl⟩)).1
    clear p20
    refine g_if_ne (q := 26) (t := 36) hx d_Sr_about_23 rfl rfl (zb_ne0 (by omega)) (fun h23 => ?_) (fun h23 => ?_)
    · refine g_iload_n (q := 37) hx d_Sr_about_36 rfl rfl ?_
      refine g_tabOut (t := 112) hx d_Sr_about_37 (z4o hw) rfl ?_
      exact g_thr (post := (fun M' => M' = M)) (ik := 65) (is := 139) (ic := 69) hx htr hno d_Sr_about_112 d_Sr_about_115 d_Sr_about_116 d_Sr_about_118 d_Sr_about_121 thr_IA zs_139 (by omega) (by decide) (by decide) (Nat.le_of_ble_eq_true rfl) rfl hQ
    · exact absurd h23 (by omega)
  · refine g_aload_n (q := 5) hx d_Sr_about_4 rfl rfl ?_
    refine g_geto (q := 8) hx d_Sr_about_5 rfl fl_Sr_35 h0 (show zr M x 4 = R from (q4 ()).trans ((if_neg h1).symm.trans hRe)) (by first | exact Nat.succ_ne_zero _ | omega) ?_
    refine g_goto (q := 15) hx d_Sr_about_8 rfl ?_
    refine g_astore (q := 17) (lc' := [(4, _), (0, _), (1, _), (2, _), (3, _)]) hx d_Sr_about_15 rfl (by decide) rfl ?_
    refine g_aload (q := 19) hx d_Sr_about_17 rfl rfl ?_
    refine g_iload_n (q := 20) hx d_Sr_about_19 rfl rfl ?_
    refine g_ci (q := 23) (zrunV hx d_Sr_about_20 lk_Sr_124 rfl rfl hRow.1 rfl rfl (Nat.le_of_ble_eq_true rfl) (by decide) (by omega) (by omega) (c_Rr_has _ E Γ n _ R K (nI u) hRow.1 hRc (by omega))) rfl (fun r20 M1 p20 => ?_)
    obtain ⟨e20, p20⟩ := p20
    subst M1
    obtain rfl : r20 = nI 1 := (p20.resolve_right (fun q => q.2 ⟨u, hu, rfl⟩)).1
    clear p20
    refine g_if_ne (q := 26) (t := 36) hx d_Sr_about_23 rfl rfl (zb_ne0 (by omega)) (fun h23 => ?_) (fun h23 => ?_)
    · refine g_iload_n (q := 37) hx d_Sr_about_36 rfl rfl ?_
      refine g_tabOut (t := 112) hx d_Sr_about_37 (z4o hw) rfl ?_
      exact g_thr (post := (fun M' => M' = M)) (ik := 65) (is := 139) (ic := 69) hx htr hno d_Sr_about_112 d_Sr_about_115 d_Sr_about_116 d_Sr_about_118 d_Sr_about_121 thr_IA zs_139 (by omega) (by decide) (by decide) (Nat.le_of_ble_eq_true rfl) rfl hQ
    · exact absurd h23 (by omega)
set_option maxHeartbeats 4000000 in
set_option maxRecDepth 100000 in
theorem c_Sr_about00 (l : Launch) (E : zE) (Γ : zG) (n : Nat) (M : zM) (x sh sp : Nat) (len c g k size : Nat) (ref arch : Nat → Nat) (fs hs : Nat → mRd) (ur : mRd) (hI : pI Γ M x sh sp len c g k size ref arch fs hs ur) (u : Nat) (z : Int32) (hu : u < (if z = 0 then c else k)) : zCt l E Y_Sr_about 7 (0, 0) [.ref x, .int (nI u), .int (nI 0), .int z] Γ n M (zPi Γ n (fun v M' => v = nI (mWh (if z = 0 then fs u else hs u) 0) ∧ M' = M)) := by
  refine zCt.of [(0, .ref x), (1, .int (nI u)), (2, .int (nI 0)), (3, .int z)] (by decide) (Nat.le_of_ble_eq_true rfl) rfl (fun f hfl hx hQ => ?_)
  have h0 := hI.1.1.1
  have hx0 := hI.1.1.2
  have hsp := hI.1.2.2.1
  have hc24 := hI.2.2.1.2
  have hg1 := hI.2.2.2.2.1.2
  have hk3 := hI.2.2.2.2.2.2.1.2
  have hl160 := hI.2.1.2.2.1
  have hRs := hI.1.2.2.2.1
  have hF := hI.1.2.2.2.2.1
  have hf0 := hF.1
  have hf1 := hF.2.1
  have hA := hI.1.2.2.2.2.2.2.2.1
  have hcz := hI.2.2.1.1
  have hgz := hI.2.2.2.2.1.1
  have q0 : ∀ _ : Unit, zr M x 0 = x + 1 := fun _ => hI.1.2.1.1
  have q1 : ∀ _ : Unit, zr M x 1 = x + 3 := fun _ => hI.1.2.1.2.1
  have q4 : ∀ _ : Unit, zr M x 4 = sh := fun _ => hI.1.2.1.2.2.2.1
  have q5 : ∀ _ : Unit, zr M x 5 = sp := fun _ => hI.1.2.1.2.2.2.2.1
  have q6 : ∀ _ : Unit, zr M x 6 = x + 134 := fun _ => hI.1.2.1.2.2.2.2.2.1
  have f0 : ∀ _ : Unit, zr M (x + 3) 0 = x + 4 := fun _ => hF.2.2.1
  have fi : ∀ i, i < 25 → zr M (x + 4) i = x + 5 + 4 * i := fun i hi => (hF.2.2.2 i hi).1
  have fs9 : ∀ i, i < 25 → pSh Γ M.2.2 (x + 5 + 4 * i) := fun i hi => (hF.2.2.2 i hi).2
  have hpick : ∃ R NN, (if z = 0 then x + 3 else sh) = R ∧ (x ≤ R ∧ R + 1 + 4 * NN ≤ x + 141) ∧ (if z = 0 then c else k) ≤ NN ∧ NN ≤ 25 ∧ pRrS Γ M.2.2 R NN ∧ zi M R 1 = nI (if z = 0 then c else k) ∧ ∀ i, i < (if z = 0 then c else k) → pRb M (R + 2 + 4 * i) ref len (if z = 0 then fs i else hs i) := by
    by_cases e : z = 0
    · refine ⟨x + 3, 25, if_pos e, by omega, ?_, Nat.le_refl _, hF, ?_, ?_⟩
      · rw [if_pos e]; omega
      · rw [if_pos e]; exact hcz
      · rw [if_pos e]; intro i hi; rw [if_pos e]; exact hI.2.2.2.1 i hi
    · refine ⟨sh, 3, if_neg e, by omega, ?_, by omega, hI.1.2.2.2.2.2.2.1.1, ?_, ?_⟩
      · rw [if_neg e]; omega
      · rw [if_neg e]; exact hI.2.2.2.2.2.2.1.1
      · rw [if_neg e]; intro i hi; rw [if_neg e]; exact hI.2.2.2.2.2.2.2.1 i hi
  obtain ⟨R, NN, hRe, hR9, hNN, hN25, hRow, hRc, hRr⟩ := hpick
  generalize (if z = 0 then c else k) = K at *
  have r0 : ∀ _ : Unit, zr M R 0 = R + 1 := fun _ => hRow.2.2.1
  have ri : ∀ i, i < NN → zr M (R + 1) i = R + 2 + 4 * i := fun i hi => (hRow.2.2.2 i hi).1
  have rs9 : ∀ i, i < NN → pSh Γ M.2.2 (R + 2 + 4 * i) := fun i hi => (hRow.2.2.2 i hi).2
  refine g_iload_n (q := 1) hx d_Sr_about_0 rfl rfl ?_
  refine g_if_eq (q := 4) (t := 11) hx d_Sr_about_1 rfl rfl Iff.rfl (fun h1 => ?_) (fun h1 => ?_)
  · refine g_aload_n (q := 12) hx d_Sr_about_11 rfl rfl ?_
    refine g_geto (q := 15) hx d_Sr_about_12 rfl fl_Sr_21 h0 (show zr M x 1 = R from (q1 ()).trans ((if_pos h1).symm.trans hRe)) (by first | exact Nat.succ_ne_zero _ | omega) ?_
    refine g_astore (q := 17) (lc' := [(4, _), (0, _), (1, _), (2, _), (3, _)]) hx d_Sr_about_15 rfl (by decide) rfl ?_
    refine g_aload (q := 19) hx d_Sr_about_17 rfl rfl ?_
    refine g_iload_n (q := 20) hx d_Sr_about_19 rfl rfl ?_
    refine g_ci (q := 23) (zrunV hx d_Sr_about_20 lk_Sr_124 rfl rfl hRow.1 rfl rfl (Nat.le_of_ble_eq_true rfl) (by decide) (by omega) (by omega) (c_Rr_has _ E Γ n _ R K (nI u) hRow.1 hRc (by omega))) rfl (fun r20 M1 p20 => ?_)
    obtain ⟨e20, p20⟩ := p20
    subst M1
    obtain rfl : r20 = nI 1 := (p20.resolve_right (fun q => q.2 ⟨u, hu, rfl⟩)).1
    clear p20
    refine g_if_ne (q := 26) (t := 36) hx d_Sr_about_23 rfl rfl (zb_ne0 (by omega)) (fun h23 => ?_) (fun h23 => ?_)
    · refine g_iload_n (q := 37) hx d_Sr_about_36 rfl rfl ?_
      refine g_tabIn (off := 31) (t := 68) hx d_Sr_about_37 (by rw [nI_toInt (by omega)]; omega) (by rw [nI_toInt (by omega)]; omega) (by rw [nI_toInt (by omega)]; rfl) rfl ?_
      refine g_aload (q := 70) hx d_Sr_about_68 rfl rfl ?_
      refine g_geta (q := 73) hx d_Sr_about_70 rfl fl_Sr_62 hRow.1 (r0 ()) (by first | exact Nat.succ_ne_zero _ | omega) ?_
      refine g_iload_n (q := 74) hx d_Sr_about_73 rfl rfl ?_
      refine g_aald (q := 75) hx d_Sr_about_74 rfl hRow.2.1 rfl (by omega) (by omega) (ri u (by omega)) (by omega) ?_
      refine g_geti (q := 78) hx d_Sr_about_75 rfl fl_Sr_130 (rs9 u (by omega)).1.1 (hRr u hu).1.1 ?_
      exact g_iret hx d_Sr_about_78 rfl hQ ⟨Nat.le_refl _, Nat.le_refl _⟩ ⟨_, rfl, rfl, rfl, rfl, rfl⟩
    · exact absurd h23 (by omega)
  · refine g_aload_n (q := 5) hx d_Sr_about_4 rfl rfl ?_
    refine g_geto (q := 8) hx d_Sr_about_5 rfl fl_Sr_35 h0 (show zr M x 4 = R from (q4 ()).trans ((if_neg h1).symm.trans hRe)) (by first | exact Nat.succ_ne_zero _ | omega) ?_
    refine g_goto (q := 15) hx d_Sr_about_8 rfl ?_
    refine g_astore (q := 17) (lc' := [(4, _), (0, _), (1, _), (2, _), (3, _)]) hx d_Sr_about_15 rfl (by decide) rfl ?_
    refine g_aload (q := 19) hx d_Sr_about_17 rfl rfl ?_
    refine g_iload_n (q := 20) hx d_Sr_about_19 rfl rfl ?_
    refine g_ci (q := 23) (zrunV hx d_Sr_about_20 lk_Sr_124 rfl rfl hRow.1 rfl rfl (Nat.le_of_ble_eq_true rfl) (by decide) (by omega) (by omega) (c_Rr_has _ E Γ n _ R K (nI u) hRow.1 hRc (by omega))) rfl (fun r20 M1 p20 => ?_)
    obtain ⟨e20, p20⟩ := p20
    subst M1
    obtain rfl : r20 = nI 1 := (p20.resolve_right (fun q => q.2 ⟨u, hu, rfl⟩)).1
    clear p20
    refine g_if_ne (q := 26) (t := 36) hx d_Sr_about_23 rfl rfl (zb_ne0 (by omega)) (fun h23 => ?_) (fun h23 => ?_)
    · refine g_iload_n (q := 37) hx d_Sr_about_36 rfl rfl ?_
      refine g_tabIn (off := 31) (t := 68) hx d_Sr_about_37 (by rw [nI_toInt (by omega)]; omega) (by rw [nI_toInt (by omega)]; omega) (by rw [nI_toInt (by omega)]; rfl) rfl ?_
      refine g_aload (q := 70) hx d_Sr_about_68 rfl rfl ?_
      refine g_geta (q := 73) hx d_Sr_about_70 rfl fl_Sr_62 hRow.1 (r0 ()) (by first | exact Nat.succ_ne_zero _ | omega) ?_
      refine g_iload_n (q := 74) hx d_Sr_about_73 rfl rfl ?_
      refine g_aald (q := 75) hx d_Sr_about_74 rfl hRow.2.1 rfl (by omega) (by omega) (ri u (by omega)) (by omega) ?_
      refine g_geti (q := 78) hx d_Sr_about_75 rfl fl_Sr_130 (rs9 u (by omega)).1.1 (hRr u hu).1.1 ?_
      exact g_iret hx d_Sr_about_78 rfl hQ ⟨Nat.le_refl _, Nat.le_refl _⟩ ⟨_, rfl, rfl, rfl, rfl, rfl⟩
    · exact absurd h23 (by omega)
set_option maxHeartbeats 4000000 in
set_option maxRecDepth 100000 in
theorem c_Sr_about01 (l : Launch) (E : zE) (Γ : zG) (n : Nat) (M : zM) (x sh sp : Nat) (len c g k size : Nat) (ref arch : Nat → Nat) (fs hs : Nat → mRd) (ur : mRd) (hI : pI Γ M x sh sp len c g k size ref arch fs hs ur) (u : Nat) (z : Int32) (hu : u < (if z = 0 then c else k)) : zCt l E Y_Sr_about 7 (0, 0) [.ref x, .int (nI u), .int (nI 1), .int z] Γ n M (zPi Γ n (fun v M' => v = nI (mWh (if z = 0 then fs u else hs u) 1) ∧ M' = M)) := by
  refine zCt.of [(0, .ref x), (1, .int (nI u)), (2, .int (nI 1)), (3, .int z)] (by decide) (Nat.le_of_ble_eq_true rfl) rfl (fun f hfl hx hQ => ?_)
  have h0 := hI.1.1.1
  have hx0 := hI.1.1.2
  have hsp := hI.1.2.2.1
  have hc24 := hI.2.2.1.2
  have hg1 := hI.2.2.2.2.1.2
  have hk3 := hI.2.2.2.2.2.2.1.2
  have hl160 := hI.2.1.2.2.1
  have hRs := hI.1.2.2.2.1
  have hF := hI.1.2.2.2.2.1
  have hf0 := hF.1
  have hf1 := hF.2.1
  have hA := hI.1.2.2.2.2.2.2.2.1
  have hcz := hI.2.2.1.1
  have hgz := hI.2.2.2.2.1.1
  have q0 : ∀ _ : Unit, zr M x 0 = x + 1 := fun _ => hI.1.2.1.1
  have q1 : ∀ _ : Unit, zr M x 1 = x + 3 := fun _ => hI.1.2.1.2.1
  have q4 : ∀ _ : Unit, zr M x 4 = sh := fun _ => hI.1.2.1.2.2.2.1
  have q5 : ∀ _ : Unit, zr M x 5 = sp := fun _ => hI.1.2.1.2.2.2.2.1
  have q6 : ∀ _ : Unit, zr M x 6 = x + 134 := fun _ => hI.1.2.1.2.2.2.2.2.1
  have f0 : ∀ _ : Unit, zr M (x + 3) 0 = x + 4 := fun _ => hF.2.2.1
  have fi : ∀ i, i < 25 → zr M (x + 4) i = x + 5 + 4 * i := fun i hi => (hF.2.2.2 i hi).1
  have fs9 : ∀ i, i < 25 → pSh Γ M.2.2 (x + 5 + 4 * i) := fun i hi => (hF.2.2.2 i hi).2
  have hpick : ∃ R NN, (if z = 0 then x + 3 else sh) = R ∧ (x ≤ R ∧ R + 1 + 4 * NN ≤ x + 141) ∧ (if z = 0 then c else k) ≤ NN ∧ NN ≤ 25 ∧ pRrS Γ M.2.2 R NN ∧ zi M R 1 = nI (if z = 0 then c else k) ∧ ∀ i, i < (if z = 0 then c else k) → pRb M (R + 2 + 4 * i) ref len (if z = 0 then fs i else hs i) := by
    by_cases e : z = 0
    · refine ⟨x + 3, 25, if_pos e, by omega, ?_, Nat.le_refl _, hF, ?_, ?_⟩
      · rw [if_pos e]; omega
      · rw [if_pos e]; exact hcz
      · rw [if_pos e]; intro i hi; rw [if_pos e]; exact hI.2.2.2.1 i hi
    · refine ⟨sh, 3, if_neg e, by omega, ?_, by omega, hI.1.2.2.2.2.2.2.1.1, ?_, ?_⟩
      · rw [if_neg e]; omega
      · rw [if_neg e]; exact hI.2.2.2.2.2.2.1.1
      · rw [if_neg e]; intro i hi; rw [if_neg e]; exact hI.2.2.2.2.2.2.2.1 i hi
  obtain ⟨R, NN, hRe, hR9, hNN, hN25, hRow, hRc, hRr⟩ := hpick
  generalize (if z = 0 then c else k) = K at *
  have r0 : ∀ _ : Unit, zr M R 0 = R + 1 := fun _ => hRow.2.2.1
  have ri : ∀ i, i < NN → zr M (R + 1) i = R + 2 + 4 * i := fun i hi => (hRow.2.2.2 i hi).1
  have rs9 : ∀ i, i < NN → pSh Γ M.2.2 (R + 2 + 4 * i) := fun i hi => (hRow.2.2.2 i hi).2
  refine g_iload_n (q := 1) hx d_Sr_about_0 rfl rfl ?_
  refine g_if_eq (q := 4) (t := 11) hx d_Sr_about_1 rfl rfl Iff.rfl (fun h1 => ?_) (fun h1 => ?_)
  · refine g_aload_n (q := 12) hx d_Sr_about_11 rfl rfl ?_
    refine g_geto (q := 15) hx d_Sr_about_12 rfl fl_Sr_21 h0 (show zr M x 1 = R from (q1 ()).trans ((if_pos h1).symm.trans hRe)) (by first | exact Nat.succ_ne_zero _ | omega) ?_
    refine g_astore (q := 17) (lc' := [(4, _), (0, _), (1, _), (2, _), (3, _)]) hx d_Sr_about_15 rfl (by decide) rfl ?_
    refine g_aload (q := 19) hx d_Sr_about_17 rfl rfl ?_
    refine g_iload_n (q := 20) hx d_Sr_about_19 rfl rfl ?_
    refine g_ci (q := 23) (zrunV hx d_Sr_about_20 lk_Sr_124 rfl rfl hRow.1 rfl rfl (Nat.le_of_ble_eq_true rfl) (by decide) (by omega) (by omega) (c_Rr_has _ E Γ n _ R K (nI u) hRow.1 hRc (by omega))) rfl (fun r20 M1 p20 => ?_)
    obtain ⟨e20, p20⟩ := p20
    subst M1
    obtain rfl : r20 = nI 1 := (p20.resolve_right (fun q => q.2 ⟨u, hu, rfl⟩)).1
    clear p20
    refine g_if_ne (q := 26) (t := 36) hx d_Sr_about_23 rfl rfl (zb_ne0 (by omega)) (fun h23 => ?_) (fun h23 => ?_)
    · refine g_iload_n (q := 37) hx d_Sr_about_36 rfl rfl ?_
      refine g_tabIn (off := 42) (t := 79) hx d_Sr_about_37 (by rw [nI_toInt (by omega)]; omega) (by rw [nI_toInt (by omega)]; omega) (by rw [nI_toInt (by omega)]; rfl) rfl ?_
      refine g_aload (q := 81) hx d_Sr_about_79 rfl rfl ?_
      refine g_geta (q := 84) hx d_Sr_about_81 rfl fl_Sr_62 hRow.1 (r0 ()) (by first | exact Nat.succ_ne_zero _ | omega) ?_
      refine g_iload_n (q := 85) hx d_Sr_about_84 rfl rfl ?_
      refine g_aald (q := 86) hx d_Sr_about_85 rfl hRow.2.1 rfl (by omega) (by omega) (ri u (by omega)) (by omega) ?_
      refine g_geti (q := 89) hx d_Sr_about_86 rfl fl_Sr_117 (rs9 u (by omega)).1.1 (hRr u hu).1.2.2.1 ?_
      exact g_iret hx d_Sr_about_89 rfl hQ ⟨Nat.le_refl _, Nat.le_refl _⟩ ⟨_, rfl, rfl, rfl, rfl, rfl⟩
    · exact absurd h23 (by omega)
  · refine g_aload_n (q := 5) hx d_Sr_about_4 rfl rfl ?_
    refine g_geto (q := 8) hx d_Sr_about_5 rfl fl_Sr_35 h0 (show zr M x 4 = R from (q4 ()).trans ((if_neg h1).symm.trans hRe)) (by first | exact Nat.succ_ne_zero _ | omega) ?_
    refine g_goto (q := 15) hx d_Sr_about_8 rfl ?_
    refine g_astore (q := 17) (lc' := [(4, _), (0, _), (1, _), (2, _), (3, _)]) hx d_Sr_about_15 rfl (by decide) rfl ?_
    refine g_aload (q := 19) hx d_Sr_about_17 rfl rfl ?_
    refine g_iload_n (q := 20) hx d_Sr_about_19 rfl rfl ?_
    refine g_ci (q := 23) (zrunV hx d_Sr_about_20 lk_Sr_124 rfl rfl hRow.1 rfl rfl (Nat.le_of_ble_eq_true rfl) (by decide) (by omega) (by omega) (c_Rr_has _ E Γ n _ R K (nI u) hRow.1 hRc (by omega))) rfl (fun r20 M1 p20 => ?_)
    obtain ⟨e20, p20⟩ := p20
    subst M1
    obtain rfl : r20 = nI 1 := (p20.resolve_right (fun q => q.2 ⟨u, hu, rfl⟩)).1
    clear p20
    refine g_if_ne (q := 26) (t := 36) hx d_Sr_about_23 rfl rfl (zb_ne0 (by omega)) (fun h23 => ?_) (fun h23 => ?_)
    · refine g_iload_n (q := 37) hx d_Sr_about_36 rfl rfl ?_
      refine g_tabIn (off := 42) (t := 79) hx d_Sr_about_37 (by rw [nI_toInt (by omega)]; omega) (by rw [nI_toInt (by omega)]; omega) (by rw [nI_toInt (by omega)]; rfl) rfl ?_
      refine g_aload (q := 81) hx d_Sr_about_79 rfl rfl ?_
      refine g_geta (q := 84) hx d_Sr_about_81 rfl fl_Sr_62 hRow.1 (r0 ()) (by first | exact Nat.succ_ne_zero _ | omega) ?_
      refine g_iload_n (q := 85) hx d_Sr_about_84 rfl rfl ?_
      refine g_aald (q := 86) hx d_Sr_about_85 rfl hRow.2.1 rfl (by omega) (by omega) (ri u (by omega)) (by omega) ?_
      refine g_geti (q := 89) hx d_Sr_about_86 rfl fl_Sr_117 (rs9 u (by omega)).1.1 (hRr u hu).1.2.2.1 ?_
      exact g_iret hx d_Sr_about_89 rfl hQ ⟨Nat.le_refl _, Nat.le_refl _⟩ ⟨_, rfl, rfl, rfl, rfl, rfl⟩
    · exact absurd h23 (by omega)
set_option maxHeartbeats 4000000 in
set_option maxRecDepth 100000 in
theorem c_Sr_about02 (l : Launch) (E : zE) (Γ : zG) (n : Nat) (M : zM) (x sh sp : Nat) (len c g k size : Nat) (ref arch : Nat → Nat) (fs hs : Nat → mRd) (ur : mRd) (hI : pI Γ M x sh sp len c g k size ref arch fs hs ur) (u : Nat) (z : Int32) (hu : u < (if z = 0 then c else k)) : zCt l E Y_Sr_about 7 (0, 0) [.ref x, .int (nI u), .int (nI 2), .int z] Γ n M (zPi Γ n (fun v M' => v = nI (mWh (if z = 0 then fs u else hs u) 2) ∧ M' = M)) := by
  refine zCt.of [(0, .ref x), (1, .int (nI u)), (2, .int (nI 2)), (3, .int z)] (by decide) (Nat.le_of_ble_eq_true rfl) rfl (fun f hfl hx hQ => ?_)
  have h0 := hI.1.1.1
  have hx0 := hI.1.1.2
  have hsp := hI.1.2.2.1
  have hc24 := hI.2.2.1.2
  have hg1 := hI.2.2.2.2.1.2
  have hk3 := hI.2.2.2.2.2.2.1.2
  have hl160 := hI.2.1.2.2.1
  have hRs := hI.1.2.2.2.1
  have hF := hI.1.2.2.2.2.1
  have hf0 := hF.1
  have hf1 := hF.2.1
  have hA := hI.1.2.2.2.2.2.2.2.1
  have hcz := hI.2.2.1.1
  have hgz := hI.2.2.2.2.1.1
  have q0 : ∀ _ : Unit, zr M x 0 = x + 1 := fun _ => hI.1.2.1.1
  have q1 : ∀ _ : Unit, zr M x 1 = x + 3 := fun _ => hI.1.2.1.2.1
  have q4 : ∀ _ : Unit, zr M x 4 = sh := fun _ => hI.1.2.1.2.2.2.1
  have q5 : ∀ _ : Unit, zr M x 5 = sp := fun _ => hI.1.2.1.2.2.2.2.1
  have q6 : ∀ _ : Unit, zr M x 6 = x + 134 := fun _ => hI.1.2.1.2.2.2.2.2.1
  have f0 : ∀ _ : Unit, zr M (x + 3) 0 = x + 4 := fun _ => hF.2.2.1
  have fi : ∀ i, i < 25 → zr M (x + 4) i = x + 5 + 4 * i := fun i hi => (hF.2.2.2 i hi).1
  have fs9 : ∀ i, i < 25 → pSh Γ M.2.2 (x + 5 + 4 * i) := fun i hi => (hF.2.2.2 i hi).2
  have hpick : ∃ R NN, (if z = 0 then x + 3 else sh) = R ∧ (x ≤ R ∧ R + 1 + 4 * NN ≤ x + 141) ∧ (if z = 0 then c else k) ≤ NN ∧ NN ≤ 25 ∧ pRrS Γ M.2.2 R NN ∧ zi M R 1 = nI (if z = 0 then c else k) ∧ ∀ i, i < (if z = 0 then c else k) → pRb M (R + 2 + 4 * i) ref len (if z = 0 then fs i else hs i) := by
    by_cases e : z = 0
    · refine ⟨x + 3, 25, if_pos e, by omega, ?_, Nat.le_refl _, hF, ?_, ?_⟩
      · rw [if_pos e]; omega
      · rw [if_pos e]; exact hcz
      · rw [if_pos e]; intro i hi; rw [if_pos e]; exact hI.2.2.2.1 i hi
    · refine ⟨sh, 3, if_neg e, by omega, ?_, by omega, hI.1.2.2.2.2.2.2.1.1, ?_, ?_⟩
      · rw [if_neg e]; omega
      · rw [if_neg e]; exact hI.2.2.2.2.2.2.1.1
      · rw [if_neg e]; intro i hi; rw [if_neg e]; exact hI.2.2.2.2.2.2.2.1 i hi
  obtain ⟨R, NN, hRe, hR9, hNN, hN25, hRow, hRc, hRr⟩ := hpick
  generalize (if z = 0 then c else k) = K at *
  have r0 : ∀ _ : Unit, zr M R 0 = R + 1 := fun _ => hRow.2.2.1
  have ri : ∀ i, i < NN → zr M (R + 1) i = R + 2 + 4 * i := fun i hi => (hRow.2.2.2 i hi).1
  have rs9 : ∀ i, i < NN → pSh Γ M.2.2 (R + 2 + 4 * i) := fun i hi => (hRow.2.2.2 i hi).2
  refine g_iload_n (q := 1) hx d_Sr_about_0 rfl rfl ?_
  refine g_if_eq (q := 4) (t := 11) hx d_Sr_about_1 rfl rfl Iff.rfl (fun h1 => ?_) (fun h1 => ?_)
  · refine g_aload_n (q := 12) hx d_Sr_about_11 rfl rfl ?_
    refine g_geto (q := 15) hx d_Sr_about_12 rfl fl_Sr_21 h0 (show zr M x 1 = R from (q1 ()).trans ((if_pos h1).symm.trans hRe)) (by first | exact Nat.succ_ne_zero _ | omega) ?_
    refine g_astore (q := 17) (lc' := [(4, _), (0, _), (1, _), (2, _), (3, _)]) hx d_Sr_about_15 rfl (by decide) rfl ?_
    refine g_aload (q := 19) hx d_Sr_about_17 rfl rfl ?_
    refine g_iload_n (q := 20) hx d_Sr_about_19 rfl rfl ?_
    refine g_ci (q := 23) (zrunV hx d_Sr_about_20 lk_Sr_124 rfl rfl hRow.1 rfl rfl (Nat.le_of_ble_eq_true rfl) (by decide) (by omega) (by omega) (c_Rr_has _ E Γ n _ R K (nI u) hRow.1 hRc (by omega))) rfl (fun r20 M1 p20 => ?_)
    obtain ⟨e20, p20⟩ := p20
    subst M1
    obtain rfl : r20 = nI 1 := (p20.resolve_right (fun q => q.2 ⟨u, hu, rfl⟩)).1
    clear p20
    refine g_if_ne (q := 26) (t := 36) hx d_Sr_about_23 rfl rfl (zb_ne0 (by omega)) (fun h23 => ?_) (fun h23 => ?_)
    · refine g_iload_n (q := 37) hx d_Sr_about_36 rfl rfl ?_
      refine g_tabIn (off := 53) (t := 90) hx d_Sr_about_37 (by rw [nI_toInt (by omega)]; omega) (by rw [nI_toInt (by omega)]; omega) (by rw [nI_toInt (by omega)]; rfl) rfl ?_
      refine g_aload (q := 92) hx d_Sr_about_90 rfl rfl ?_
      refine g_geta (q := 95) hx d_Sr_about_92 rfl fl_Sr_62 hRow.1 (r0 ()) (by first | exact Nat.succ_ne_zero _ | omega) ?_
      refine g_iload_n (q := 96) hx d_Sr_about_95 rfl rfl ?_
      refine g_aald (q := 97) hx d_Sr_about_96 rfl hRow.2.1 rfl (by omega) (by omega) (ri u (by omega)) (by omega) ?_
      refine g_geti (q := 100) hx d_Sr_about_97 rfl fl_Sr_133 (rs9 u (by omega)).1.1 (hRr u hu).1.2.1 ?_
      exact g_iret hx d_Sr_about_100 rfl hQ ⟨Nat.le_refl _, Nat.le_refl _⟩ ⟨_, rfl, rfl, rfl, rfl, rfl⟩
    · exact absurd h23 (by omega)
  · refine g_aload_n (q := 5) hx d_Sr_about_4 rfl rfl ?_
    refine g_geto (q := 8) hx d_Sr_about_5 rfl fl_Sr_35 h0 (show zr M x 4 = R from (q4 ()).trans ((if_neg h1).symm.trans hRe)) (by first | exact Nat.succ_ne_zero _ | omega) ?_
    refine g_goto (q := 15) hx d_Sr_about_8 rfl ?_
    refine g_astore (q := 17) (lc' := [(4, _), (0, _), (1, _), (2, _), (3, _)]) hx d_Sr_about_15 rfl (by decide) rfl ?_
    refine g_aload (q := 19) hx d_Sr_about_17 rfl rfl ?_
    refine g_iload_n (q := 20) hx d_Sr_about_19 rfl rfl ?_
    refine g_ci (q := 23) (zrunV hx d_Sr_about_20 lk_Sr_124 rfl rfl hRow.1 rfl rfl (Nat.le_of_ble_eq_true rfl) (by decide) (by omega) (by omega) (c_Rr_has _ E Γ n _ R K (nI u) hRow.1 hRc (by omega))) rfl (fun r20 M1 p20 => ?_)
    obtain ⟨e20, p20⟩ := p20
    subst M1
    obtain rfl : r20 = nI 1 := (p20.resolve_right (fun q => q.2 ⟨u, hu, rfl⟩)).1
    clear p20
    refine g_if_ne (q := 26) (t := 36) hx d_Sr_about_23 rfl rfl (zb_ne0 (by omega)) (fun h23 => ?_) (fun h23 => ?_)
    · refine g_iload_n (q := 37) hx d_Sr_about_36 rfl rfl ?_
      refine g_tabIn (off := 53) (t := 90) hx d_Sr_about_37 (by rw [nI_toInt (by omega)]; omega) (by rw [nI_toInt (by omega)]; omega) (by rw [nI_toInt (by omega)]; rfl) rfl ?_
      refine g_aload (q := 92) hx d_Sr_about_90 rfl rfl ?_
      refine g_geta (q := 95) hx d_Sr_about_92 rfl fl_Sr_62 hRow.1 (r0 ()) (by first | exact Nat.succ_ne_zero _ | omega) ?_
      refine g_iload_n (q := 96) hx d_Sr_about_95 rfl rfl ?_
      refine g_aald (q := 97) hx d_Sr_about_96 rfl hRow.2.1 rfl (by omega) (by omega) (ri u (by omega)) (by omega) ?_
      refine g_geti (q := 100) hx d_Sr_about_97 rfl fl_Sr_133 (rs9 u (by omega)).1.1 (hRr u hu).1.2.1 ?_
      exact g_iret hx d_Sr_about_100 rfl hQ ⟨Nat.le_refl _, Nat.le_refl _⟩ ⟨_, rfl, rfl, rfl, rfl, rfl⟩
    · exact absurd h23 (by omega)
set_option maxHeartbeats 4000000 in
set_option maxRecDepth 100000 in
theorem c_Sr_about03 (l : Launch) (E : zE) (Γ : zG) (n : Nat) (M : zM) (x sh sp : Nat) (len c g k size : Nat) (ref arch : Nat → Nat) (fs hs : Nat → mRd) (ur : mRd) (hI : pI Γ M x sh sp len c g k size ref arch fs hs ur) (u : Nat) (z : Int32) (hu : u < (if z = 0 then c else k)) : zCt l E Y_Sr_about 7 (0, 0) [.ref x, .int (nI u), .int (nI 3), .int z] Γ n M (zPi Γ n (fun v M' => v = nI (mWh (if z = 0 then fs u else hs u) 3) ∧ M' = M)) := by
  refine zCt.of [(0, .ref x), (1, .int (nI u)), (2, .int (nI 3)), (3, .int z)] (by decide) (Nat.le_of_ble_eq_true rfl) rfl (fun f hfl hx hQ => ?_)
  have h0 := hI.1.1.1
  have hx0 := hI.1.1.2
  have hsp := hI.1.2.2.1
  have hc24 := hI.2.2.1.2
  have hg1 := hI.2.2.2.2.1.2
  have hk3 := hI.2.2.2.2.2.2.1.2
  have hl160 := hI.2.1.2.2.1
  have hRs := hI.1.2.2.2.1
  have hF := hI.1.2.2.2.2.1
  have hf0 := hF.1
  have hf1 := hF.2.1
  have hA := hI.1.2.2.2.2.2.2.2.1
  have hcz := hI.2.2.1.1
  have hgz := hI.2.2.2.2.1.1
  have q0 : ∀ _ : Unit, zr M x 0 = x + 1 := fun _ => hI.1.2.1.1
  have q1 : ∀ _ : Unit, zr M x 1 = x + 3 := fun _ => hI.1.2.1.2.1
  have q4 : ∀ _ : Unit, zr M x 4 = sh := fun _ => hI.1.2.1.2.2.2.1
  have q5 : ∀ _ : Unit, zr M x 5 = sp := fun _ => hI.1.2.1.2.2.2.2.1
  have q6 : ∀ _ : Unit, zr M x 6 = x + 134 := fun _ => hI.1.2.1.2.2.2.2.2.1
  have f0 : ∀ _ : Unit, zr M (x + 3) 0 = x + 4 := fun _ => hF.2.2.1
  have fi : ∀ i, i < 25 → zr M (x + 4) i = x + 5 + 4 * i := fun i hi => (hF.2.2.2 i hi).1
  have fs9 : ∀ i, i < 25 → pSh Γ M.2.2 (x + 5 + 4 * i) := fun i hi => (hF.2.2.2 i hi).2
  have hpick : ∃ R NN, (if z = 0 then x + 3 else sh) = R ∧ (x ≤ R ∧ R + 1 + 4 * NN ≤ x + 141) ∧ (if z = 0 then c else k) ≤ NN ∧ NN ≤ 25 ∧ pRrS Γ M.2.2 R NN ∧ zi M R 1 = nI (if z = 0 then c else k) ∧ ∀ i, i < (if z = 0 then c else k) → pRb M (R + 2 + 4 * i) ref len (if z = 0 then fs i else hs i) := by
    by_cases e : z = 0
    · refine ⟨x + 3, 25, if_pos e, by omega, ?_, Nat.le_refl _, hF, ?_, ?_⟩
      · rw [if_pos e]; omega
      · rw [if_pos e]; exact hcz
      · rw [if_pos e]; intro i hi; rw [if_pos e]; exact hI.2.2.2.1 i hi
    · refine ⟨sh, 3, if_neg e, by omega, ?_, by omega, hI.1.2.2.2.2.2.2.1.1, ?_, ?_⟩
      · rw [if_neg e]; omega
      · rw [if_neg e]; exact hI.2.2.2.2.2.2.1.1
      · rw [if_neg e]; intro i hi; rw [if_neg e]; exact hI.2.2.2.2.2.2.2.1 i hi
  obtain ⟨R, NN, hRe, hR9, hNN, hN25, hRow, hRc, hRr⟩ := hpick
  generalize (if z = 0 then c else k) = K at *
  have r0 : ∀ _ : Unit, zr M R 0 = R + 1 := fun _ => hRow.2.2.1
  have ri : ∀ i, i < NN → zr M (R + 1) i = R + 2 + 4 * i := fun i hi => (hRow.2.2.2 i hi).1
  have rs9 : ∀ i, i < NN → pSh Γ M.2.2 (R + 2 + 4 * i) := fun i hi => (hRow.2.2.2 i hi).2
  refine g_iload_n (q := 1) hx d_Sr_about_0 rfl rfl ?_
  refine g_if_eq (q := 4) (t := 11) hx d_Sr_about_1 rfl rfl Iff.rfl (fun h1 => ?_) (fun h1 => ?_)
  · refine g_aload_n (q := 12) hx d_Sr_about_11 rfl rfl ?_
    refine g_geto (q := 15) hx d_Sr_about_12 rfl fl_Sr_21 h0 (show zr M x 1 = R from (q1 ()).trans ((if_pos h1).symm.trans hRe)) (by first | exact Nat.succ_ne_zero _ | omega) ?_
    refine g_astore (q := 17) (lc' := [(4, _), (0, _), (1, _), (2, _), (3, _)]) hx d_Sr_about_15 rfl (by decide) rfl ?_
    refine g_aload (q := 19) hx d_Sr_about_17 rfl rfl ?_
    refine g_iload_n (q := 20) hx d_Sr_about_19 rfl rfl ?_
    refine g_ci (q := 23) (zrunV hx d_Sr_about_20 lk_Sr_124 rfl rfl hRow.1 rfl rfl (Nat.le_of_ble_eq_true rfl) (by decide) (by omega) (by omega) (c_Rr_has _ E Γ n _ R K (nI u) hRow.1 hRc (by omega))) rfl (fun r20 M1 p20 => ?_)
    obtain ⟨e20, p20⟩ := p20
    subst M1
    obtain rfl : r20 = nI 1 := (p20.resolve_right (fun q => q.2 ⟨u, hu, rfl⟩)).1
    clear p20
    refine g_if_ne (q := 26) (t := 36) hx d_Sr_about_23 rfl rfl (zb_ne0 (by omega)) (fun h23 => ?_) (fun h23 => ?_)
    · refine g_iload_n (q := 37) hx d_Sr_about_36 rfl rfl ?_
      refine g_tabIn (off := 64) (t := 101) hx d_Sr_about_37 (by rw [nI_toInt (by omega)]; omega) (by rw [nI_toInt (by omega)]; omega) (by rw [nI_toInt (by omega)]; rfl) rfl ?_
      refine g_aload (q := 103) hx d_Sr_about_101 rfl rfl ?_
      refine g_geta (q := 106) hx d_Sr_about_103 rfl fl_Sr_62 hRow.1 (r0 ()) (by first | exact Nat.succ_ne_zero _ | omega) ?_
      refine g_iload_n (q := 107) hx d_Sr_about_106 rfl rfl ?_
      refine g_aald (q := 108) hx d_Sr_about_107 rfl hRow.2.1 rfl (by omega) (by omega) (ri u (by omega)) (by omega) ?_
      refine g_geti (q := 111) hx d_Sr_about_108 rfl fl_Sr_136 (rs9 u (by omega)).1.1 (hRr u hu).1.2.2.2.1 ?_
      exact g_iret hx d_Sr_about_111 rfl hQ ⟨Nat.le_refl _, Nat.le_refl _⟩ ⟨_, rfl, rfl, rfl, rfl, rfl⟩
    · exact absurd h23 (by omega)
  · refine g_aload_n (q := 5) hx d_Sr_about_4 rfl rfl ?_
    refine g_geto (q := 8) hx d_Sr_about_5 rfl fl_Sr_35 h0 (show zr M x 4 = R from (q4 ()).trans ((if_neg h1).symm.trans hRe)) (by first | exact Nat.succ_ne_zero _ | omega) ?_
    refine g_goto (q := 15) hx d_Sr_about_8 rfl ?_
    refine g_astore (q := 17) (lc' := [(4, _), (0, _), (1, _), (2, _), (3, _)]) hx d_Sr_about_15 rfl (by decide) rfl ?_
    refine g_aload (q := 19) hx d_Sr_about_17 rfl rfl ?_
    refine g_iload_n (q := 20) hx d_Sr_about_19 rfl rfl ?_
    refine g_ci (q := 23) (zrunV hx d_Sr_about_20 lk_Sr_124 rfl rfl hRow.1 rfl rfl (Nat.le_of_ble_eq_true rfl) (by decide) (by omega) (by omega) (c_Rr_has _ E Γ n _ R K (nI u) hRow.1 hRc (by omega))) rfl (fun r20 M1 p20 => ?_)
    obtain ⟨e20, p20⟩ := p20
    subst M1
    obtain rfl : r20 = nI 1 := (p20.resolve_right (fun q => q.2 ⟨u, hu, rfl⟩)).1
    clear p20
    refine g_if_ne (q := 26) (t := 36) hx d_Sr_about_23 rfl rfl (zb_ne0 (by omega)) (fun h23 => ?_) (fun h23 => ?_)
    · refine g_iload_n (q := 37) hx d_Sr_about_36 rfl rfl ?_
      refine g_tabIn (off := 64) (t := 101) hx d_Sr_about_37 (by rw [nI_toInt (by omega)]; omega) (by rw [nI_toInt (by omega)]; omega) (by rw [nI_toInt (by omega)]; rfl) rfl ?_
      refine g_aload (q := 103) hx d_Sr_about_101 rfl rfl ?_
      refine g_geta (q := 106) hx d_Sr_about_103 rfl fl_Sr_62 hRow.1 (r0 ()) (by first | exact Nat.succ_ne_zero _ | omega) ?_
      refine g_iload_n (q := 107) hx d_Sr_about_106 rfl rfl ?_
      refine g_aald (q := 108) hx d_Sr_about_107 rfl hRow.2.1 rfl (by omega) (by omega) (ri u (by omega)) (by omega) ?_
      refine g_geti (q := 111) hx d_Sr_about_108 rfl fl_Sr_136 (rs9 u (by omega)).1.1 (hRr u hu).1.2.2.2.1 ?_
      exact g_iret hx d_Sr_about_111 rfl hQ ⟨Nat.le_refl _, Nat.le_refl _⟩ ⟨_, rfl, rfl, rfl, rfl, rfl⟩
    · exact absurd h23 (by omega)
set_option maxHeartbeats 4000000 in
set_option maxRecDepth 100000 in
theorem c_Sr_base2 (l : Launch) (hl : l.stackTraces = false) (E : zE) (Γ : zG) (n : Nat) (M : zM) (x sh sp : Nat) (len c g k size : Nat) (ref arch : Nat → Nat) (fs hs : Nat → mRd) (ur : mRd) (hI : pI Γ M x sh sp len c g k size ref arch fs hs ur) (z : Int32) (u : Nat) (rd : mRd) (hrd : rd = if z = 0 then fs u else hs u) (hu : u < (if z = 0 then c else k)) (w : Int32) (hw : ¬ ∃ v : Nat, v < mBc rd.2 ∧ w = nI v) : zCx l E Y_Sr_base 7 (1, 6) [.ref x, .int (nI u), .int w, .int z] Γ n M "java/lang/IndexOutOfBoundsException" (n + 1) (fun M' => M' = M) := by
  refine zCx.of [(0, .ref x), (1, .int (nI u)), (2, .int w), (3, .int z)] (by decide) (Nat.le_of_ble_eq_true rfl) rfl (fun f hfl hx hno hQ => ?_)
  have htr : (zll f.1).stackTraces = false := by rw [hfl]; exact hl
  have h0 := hI.1.1.1
  have hx0 := hI.1.1.2
  have hsp := hI.1.2.2.1
  have hc24 := hI.2.2.1.2
  have hg1 := hI.2.2.2.2.1.2
  have hk3 := hI.2.2.2.2.2.2.1.2
  have hl160 := hI.2.1.2.2.1
  have hRs := hI.1.2.2.2.1
  have hF := hI.1.2.2.2.2.1
  have hf0 := hF.1
  have hf1 := hF.2.1
  have hA := hI.1.2.2.2.2.2.2.2.1
  have hcz := hI.2.2.1.1
  have hgz := hI.2.2.2.2.1.1
  have q0 : ∀ _ : Unit, zr M x 0 = x + 1 := fun _ => hI.1.2.1.1
  have q1 : ∀ _ : Unit, zr M x 1 = x + 3 := fun _ => hI.1.2.1.2.1
  have q4 : ∀ _ : Unit, zr M x 4 = sh := fun _ => hI.1.2.1.2.2.2.1
  have q5 : ∀ _ : Unit, zr M x 5 = sp := fun _ => hI.1.2.1.2.2.2.2.1
  have q6 : ∀ _ : Unit, zr M x 6 = x + 134 := fun _ => hI.1.2.1.2.2.2.2.2.1
  have f0 : ∀ _ : Unit, zr M (x + 3) 0 = x + 4 := fun _ => hF.2.2.1
  have fi : ∀ i, i < 25 → zr M (x + 4) i = x + 5 + 4 * i := fun i hi => (hF.2.2.2 i hi).1
  have fs9 : ∀ i, i < 25 → pSh Γ M.2.2 (x + 5 + 4 * i) := fun i hi => (hF.2.2.2 i hi).2
  have hpick : ∃ R NN, (if z = 0 then x + 3 else sh) = R ∧ (x ≤ R ∧ R + 1 + 4 * NN ≤ x + 141) ∧ (if z = 0 then c else k) ≤ NN ∧ NN ≤ 25 ∧ pRrS Γ M.2.2 R NN ∧ zi M R 1 = nI (if z = 0 then c else k) ∧ ∀ i, i < (if z = 0 then c else k) → pRb M (R + 2 + 4 * i) ref len (if z = 0 then fs i else hs i) := by
    by_cases e : z = 0
    · refine ⟨x + 3, 25, if_pos e, by omega, ?_, Nat.le_refl _, hF, ?_, ?_⟩
      · rw [if_pos e]; omega
      · rw [if_pos e]; exact hcz
      · rw [if_pos e]; intro i hi; rw [if_pos e]; exact hI.2.2.2.1 i hi
    · refine ⟨sh, 3, if_neg e, by omega, ?_, by omega, hI.1.2.2.2.2.2.2.1.1, ?_, ?_⟩
      · rw [if_neg e]; omega
      · rw [if_neg e]; exact hI.2.2.2.2.2.2.1.1
      · rw [if_neg e]; intro i hi; rw [if_neg e]; exact hI.2.2.2.2.2.2.2.1 i hi
  obtain ⟨R, NN, hRe, hR9, hNN, hN25, hRow, hRc, hRr⟩ := hpick
  generalize (if z = 0 then c else k) = K at *
  have r0 : ∀ _ : Unit, zr M R 0 = R + 1 := fun _ => hRow.2.2.1
  have ri : ∀ i, i < NN → zr M (R + 1) i = R + 2 + 4 * i := fun i hi => (hRow.2.2.2 i hi).1
  have rs9 : ∀ i, i < NN → pSh Γ M.2.2 (R + 2 + 4 * i) := fun i hi => (hRow.2.2.2 i hi).2
  have hrr := hRr u hu
  rw [← hrd] at hrr
  have hb20 := hrr.2.2.2.2.1
  refine g_iload_n (q := 1) hx d_Sr_base_0 rfl rfl ?_
  refine g_if_eq (q := 4) (t := 11) hx d_Sr_base_1 rfl rfl Iff.rfl (fun h1 => ?_) (fun h1 => ?_)
  · refine g_aload_n (q := 12) hx d_Sr_base_11 rfl rfl ?_
    refine g_geto (q := 15) hx d_Sr_base_12 rfl fl_Sr_21 h0 (show zr M x 1 = R from (q1 ()).trans ((if_pos h1).symm.trans hRe)) (by first | exact Nat.succ_ne_zero _ | omega) ?_
    refine g_astore (q := 17) (lc' := [(4, _), (0, _), (1, _), (2, _), (3, _)]) hx d_Sr_base_15 rfl (by decide) rfl ?_
    refine g_aload (q := 19) hx d_Sr_base_17 rfl rfl ?_
    refine g_iload_n (q := 20) hx d_Sr_base_19 rfl rfl ?_
    refine g_ci (q := 23) (zrunV hx d_Sr_base_20 lk_Sr_124 rfl rfl hRow.1 rfl rfl (Nat.le_of_ble_eq_true rfl) (by decide) (by omega) (by omega) (c_Rr_has _ E Γ n _ R K (nI u) hRow.1 hRc (by omega))) rfl (fun r20 M1 p20 => ?_)
    obtain ⟨e20, p20⟩ := p20
    subst M1
    obtain rfl : r20 = nI 1 := (p20.resolve_right (fun q => q.2 ⟨u, hu, rfl⟩)).1
    clear p20
    refine g_if_ne (q := 26) (t := 36) hx d_Sr_base_23 rfl rfl (zb_ne0 (by omega)) (fun h23 => ?_) (fun h23 => ?_)
    · refine g_iload_n (q := 37) hx d_Sr_base_36 rfl rfl ?_
      refine g_if_lt (q := 40) (t := 54) hx d_Sr_base_37 rfl rfl Iff.rfl (fun h37 => ?_) (fun h37 => ?_)
      · exact g_thr (post := (fun M' => M' = M)) (ik := 91) (is := 141) (ic := 95) hx htr hno d_Sr_base_54 d_Sr_base_57 d_Sr_base_58 d_Sr_base_60 d_Sr_base_63 thr_IO zs_141 (by omega) (by decide) (by decide) (Nat.le_of_ble_eq_true rfl) rfl hQ
      · refine g_iload_n (q := 41) hx d_Sr_base_40 rfl rfl ?_
        refine g_aload (q := 43) hx d_Sr_base_41 rfl rfl ?_
        refine g_geta (q := 46) hx d_Sr_base_43 rfl fl_Sr_62 hRow.1 (r0 ()) (by first | exact Nat.succ_ne_zero _ | omega) ?_
        refine g_iload_n (q := 47) hx d_Sr_base_46 rfl rfl ?_
        refine g_aald (q := 48) hx d_Sr_base_47 rfl hRow.2.1 rfl (by omega) (by omega) (ri u (by omega)) (by omega) ?_
        refine g_geti (q := 51) hx d_Sr_base_48 rfl fl_Sr_117 (rs9 u (by omega)).1.1 hrr.1.2.2.1 ?_
        refine g_icmp_lt (q := 54) (t := 64) hx d_Sr_base_51 rfl rfl Iff.rfl (fun h51 => ?_) (fun h51 => ?_)
        · exact absurd (z_lt0 h37 h51 (by omega)) hw
        · exact g_thr (post := (fun M' => M' = M)) (ik := 91) (is := 141) (ic := 95) hx htr hno d_Sr_base_54 d_Sr_base_57 d_Sr_base_58 d_Sr_base_60 d_Sr_base_63 thr_IO zs_141 (by omega) (by decide) (by decide) (Nat.le_of_ble_eq_true rfl) rfl hQ
    · exact absurd h23 (by omega)
  · refine g_aload_n (q := 5) hx d_Sr_base_4 rfl rfl ?_
    refine g_geto (q := 8) hx d_Sr_base_5 rfl fl_Sr_35 h0 (show zr M x 4 = R from (q4 ()).trans ((if_neg h1).symm.trans hRe)) (by first | exact Nat.succ_ne_zero _ | omega) ?_
    refine g_goto (q := 15) hx d_Sr_base_8 rfl ?_
    refine g_astore (q := 17) (lc' := [(4, _), (0, _), (1, _), (2, _), (3, _)]) hx d_Sr_base_15 rfl (by decide) rfl ?_
    refine g_aload (q := 19) hx d_Sr_base_17 rfl rfl ?_
    refine g_iload_n (q := 20) hx d_Sr_base_19 rfl rfl ?_
    refine g_ci (q := 23) (zrunV hx d_Sr_base_20 lk_Sr_124 rfl rfl hRow.1 rfl rfl (Nat.le_of_ble_eq_true rfl) (by decide) (by omega) (by omega) (c_Rr_has _ E Γ n _ R K (nI u) hRow.1 hRc (by omega))) rfl (fun r20 M1 p20 => ?_)
    obtain ⟨e20, p20⟩ := p20
    subst M1
    obtain rfl : r20 = nI 1 := (p20.resolve_right (fun q => q.2 ⟨u, hu, rfl⟩)).1
    clear p20
    refine g_if_ne (q := 26) (t := 36) hx d_Sr_base_23 rfl rfl (zb_ne0 (by omega)) (fun h23 => ?_) (fun h23 => ?_)
    · refine g_iload_n (q := 37) hx d_Sr_base_36 rfl rfl ?_
      refine g_if_lt (q := 40) (t := 54) hx d_Sr_base_37 rfl rfl Iff.rfl (fun h37 => ?_) (fun h37 => ?_)
      · exact g_thr (post := (fun M' => M' = M)) (ik := 91) (is := 141) (ic := 95) hx htr hno d_Sr_base_54 d_Sr_base_57 d_Sr_base_58 d_Sr_base_60 d_Sr_base_63 thr_IO zs_141 (by omega) (by decide) (by decide) (Nat.le_of_ble_eq_true rfl) rfl hQ
      · refine g_iload_n (q := 41) hx d_Sr_base_40 rfl rfl ?_
        refine g_aload (q := 43) hx d_Sr_base_41 rfl rfl ?_
        refine g_geta (q := 46) hx d_Sr_base_43 rfl fl_Sr_62 hRow.1 (r0 ()) (by first | exact Nat.succ_ne_zero _ | omega) ?_
        refine g_iload_n (q := 47) hx d_Sr_base_46 rfl rfl ?_
        refine g_aald (q := 48) hx d_Sr_base_47 rfl hRow.2.1 rfl (by omega) (by omega) (ri u (by omega)) (by omega) ?_
        refine g_geti (q := 51) hx d_Sr_base_48 rfl fl_Sr_117 (rs9 u (by omega)).1.1 hrr.1.2.2.1 ?_
        refine g_icmp_lt (q := 54) (t := 64) hx d_Sr_base_51 rfl rfl Iff.rfl (fun h51 => ?_) (fun h51 => ?_)
        · exact absurd (z_lt0 h37 h51 (by omega)) hw
        · exact g_thr (post := (fun M' => M' = M)) (ik := 91) (is := 141) (ic := 95) hx htr hno d_Sr_base_54 d_Sr_base_57 d_Sr_base_58 d_Sr_base_60 d_Sr_base_63 thr_IO zs_141 (by omega) (by decide) (by decide) (Nat.le_of_ble_eq_true rfl) rfl hQ
    · exact absurd h23 (by omega)
set_option maxHeartbeats 4000000 in
set_option maxRecDepth 100000 in
theorem c_Sr_base0 (l : Launch) (E : zE) (Γ : zG) (n : Nat) (M : zM) (x sh sp : Nat) (len c g k size : Nat) (ref arch : Nat → Nat) (fs hs : Nat → mRd) (ur : mRd) (hI : pI Γ M x sh sp len c g k size ref arch fs hs ur) (z : Int32) (u : Nat) (rd : mRd) (hrd : rd = if z = 0 then fs u else hs u) (hu : u < (if z = 0 then c else k)) (w : Nat) (hw : w < mBc rd.2) : zCt l E Y_Sr_base 7 (0, 0) [.ref x, .int (nI u), .int (nI w), .int z] Γ n M (zPi Γ n (fun v M' => v = nI (mBase ref rd.1 rd.2 w) ∧ M' = M)) := by
  refine zCt.of [(0, .ref x), (1, .int (nI u)), (2, .int (nI w)), (3, .int z)] (by decide) (Nat.le_of_ble_eq_true rfl) rfl (fun f hfl hx hQ => ?_)
  have h0 := hI.1.1.1
  have hx0 := hI.1.1.2
  have hsp := hI.1.2.2.1
  have hc24 := hI.2.2.1.2
  have hg1 := hI.2.2.2.2.1.2
  have hk3 := hI.2.2.2.2.2.2.1.2
  have hl160 := hI.2.1.2.2.1
  have hRs := hI.1.2.2.2.1
  have hF := hI.1.2.2.2.2.1
  have hf0 := hF.1
  have hf1 := hF.2.1
  have hA := hI.1.2.2.2.2.2.2.2.1
  have hcz := hI.2.2.1.1
  have hgz := hI.2.2.2.2.1.1
  have q0 : ∀ _ : Unit, zr M x 0 = x + 1 := fun _ => hI.1.2.1.1
  have q1 : ∀ _ : Unit, zr M x 1 = x + 3 := fun _ => hI.1.2.1.2.1
  have q4 : ∀ _ : Unit, zr M x 4 = sh := fun _ => hI.1.2.1.2.2.2.1
  have q5 : ∀ _ : Unit, zr M x 5 = sp := fun _ => hI.1.2.1.2.2.2.2.1
  have q6 : ∀ _ : Unit, zr M x 6 = x + 134 := fun _ => hI.1.2.1.2.2.2.2.2.1
  have f0 : ∀ _ : Unit, zr M (x + 3) 0 = x + 4 := fun _ => hF.2.2.1
  have fi : ∀ i, i < 25 → zr M (x + 4) i = x + 5 + 4 * i := fun i hi => (hF.2.2.2 i hi).1
  have fs9 : ∀ i, i < 25 → pSh Γ M.2.2 (x + 5 + 4 * i) := fun i hi => (hF.2.2.2 i hi).2
  have hpick : ∃ R NN, (if z = 0 then x + 3 else sh) = R ∧ (x ≤ R ∧ R + 1 + 4 * NN ≤ x + 141) ∧ (if z = 0 then c else k) ≤ NN ∧ NN ≤ 25 ∧ pRrS Γ M.2.2 R NN ∧ zi M R 1 = nI (if z = 0 then c else k) ∧ ∀ i, i < (if z = 0 then c else k) → pRb M (R + 2 + 4 * i) ref len (if z = 0 then fs i else hs i) := by
    by_cases e : z = 0
    · refine ⟨x + 3, 25, if_pos e, by omega, ?_, Nat.le_refl _, hF, ?_, ?_⟩
      · rw [if_pos e]; omega
      · rw [if_pos e]; exact hcz
      · rw [if_pos e]; intro i hi; rw [if_pos e]; exact hI.2.2.2.1 i hi
    · refine ⟨sh, 3, if_neg e, by omega, ?_, by omega, hI.1.2.2.2.2.2.2.1.1, ?_, ?_⟩
      · rw [if_neg e]; omega
      · rw [if_neg e]; exact hI.2.2.2.2.2.2.1.1
      · rw [if_neg e]; intro i hi; rw [if_neg e]; exact hI.2.2.2.2.2.2.2.1 i hi
  obtain ⟨R, NN, hRe, hR9, hNN, hN25, hRow, hRc, hRr⟩ := hpick
  generalize (if z = 0 then c else k) = K at *
  have r0 : ∀ _ : Unit, zr M R 0 = R + 1 := fun _ => hRow.2.2.1
  have ri : ∀ i, i < NN → zr M (R + 1) i = R + 2 + 4 * i := fun i hi => (hRow.2.2.2 i hi).1
  have rs9 : ∀ i, i < NN → pSh Γ M.2.2 (R + 2 + 4 * i) := fun i hi => (hRow.2.2.2 i hi).2
  have hrr := hRr u hu
  rw [← hrd] at hrr
  have hb20 := hrr.2.2.2.2.1
  refine g_iload_n (q := 1) hx d_Sr_base_0 rfl rfl ?_
  refine g_if_eq (q := 4) (t := 11) hx d_Sr_base_1 rfl rfl Iff.rfl (fun h1 => ?_) (fun h1 => ?_)
  · refine g_aload_n (q := 12) hx d_Sr_base_11 rfl rfl ?_
    refine g_geto (q := 15) hx d_Sr_base_12 rfl fl_Sr_21 h0 (show zr M x 1 = R from (q1 ()).trans ((if_pos h1).symm.trans hRe)) (by first | exact Nat.succ_ne_zero _ | omega) ?_
    refine g_astore (q := 17) (lc' := [(4, _), (0, _), (1, _), (2, _), (3, _)]) hx d_Sr_base_15 rfl (by decide) rfl ?_
    refine g_aload (q := 19) hx d_Sr_base_17 rfl rfl ?_
    refine g_iload_n (q := 20) hx d_Sr_base_19 rfl rfl ?_
    refine g_ci (q := 23) (zrunV hx d_Sr_base_20 lk_Sr_124 rfl rfl hRow.1 rfl rfl (Nat.le_of_ble_eq_true rfl) (by decide) (by omega) (by omega) (c_Rr_has _ E Γ n _ R K (nI u) hRow.1 hRc (by omega))) rfl (fun r20 M1 p20 => ?_)
    obtain ⟨e20, p20⟩ := p20
    subst M1
    obtain rfl : r20 = nI 1 := (p20.resolve_right (fun q => q.2 ⟨u, hu, rfl⟩)).1
    clear p20
    refine g_if_ne (q := 26) (t := 36) hx d_Sr_base_23 rfl rfl (zb_ne0 (by omega)) (fun h23 => ?_) (fun h23 => ?_)
    · refine g_iload_n (q := 37) hx d_Sr_base_36 rfl rfl ?_
      refine g_if_lt (q := 40) (t := 54) hx d_Sr_base_37 rfl rfl (zb_lt0 (by omega)) (fun h37 => ?_) (fun h37 => ?_)
      · exact h37.elim
      · refine g_iload_n (q := 41) hx d_Sr_base_40 rfl rfl ?_
        refine g_aload (q := 43) hx d_Sr_base_41 rfl rfl ?_
        refine g_geta (q := 46) hx d_Sr_base_43 rfl fl_Sr_62 hRow.1 (r0 ()) (by first | exact Nat.succ_ne_zero _ | omega) ?_
        refine g_iload_n (q := 47) hx d_Sr_base_46 rfl rfl ?_
        refine g_aald (q := 48) hx d_Sr_base_47 rfl hRow.2.1 rfl (by omega) (by omega) (ri u (by omega)) (by omega) ?_
        refine g_geti (q := 51) hx d_Sr_base_48 rfl fl_Sr_117 (rs9 u (by omega)).1.1 hrr.1.2.2.1 ?_
        refine g_icmp_lt (q := 54) (t := 64) hx d_Sr_base_51 rfl rfl (nI_ltI (by omega) (by omega)) (fun h51 => ?_) (fun h51 => ?_)
        · refine g_aload (q := 66) hx d_Sr_base_64 rfl rfl ?_
          refine g_geta (q := 69) hx d_Sr_base_66 rfl fl_Sr_62 hRow.1 (r0 ()) (by first | exact Nat.succ_ne_zero _ | omega) ?_
          refine g_iload_n (q := 70) hx d_Sr_base_69 rfl rfl ?_
          refine g_aald (q := 71) hx d_Sr_base_70 rfl hRow.2.1 rfl (by omega) (by omega) (ri u (by omega)) (by omega) ?_
          refine g_geta (q := 74) hx d_Sr_base_71 rfl fl_Sr_143 (rs9 u (by omega)).1.1 (rs9 u (by omega)).2.2.2.1 (by first | exact Nat.succ_ne_zero _ | omega) ?_
          refine g_iload_n (q := 75) hx d_Sr_base_74 rfl rfl ?_
          refine g_iald (q := 76) hx d_Sr_base_75 rfl (rs9 u (by omega)).1.2.2.2 rfl (by omega) (by decide) (hrr.2.1 w hw) ?_
          exact g_iret hx d_Sr_base_76 rfl hQ ⟨Nat.le_refl _, Nat.le_refl _⟩ ⟨_, rfl, rfl, rfl, rfl, rfl⟩
        · exact absurd (by omega) h51
    · exact absurd h23 (by omega)
  · refine g_aload_n (q := 5) hx d_Sr_base_4 rfl rfl ?_
    refine g_geto (q := 8) hx d_Sr_base_5 rfl fl_Sr_35 h0 (show zr M x 4 = R from (q4 ()).trans ((if_neg h1).symm.trans hRe)) (by first | exact Nat.succ_ne_zero _ | omega) ?_
    refine g_goto (q := 15) hx d_Sr_base_8 rfl ?_
    refine g_astore (q := 17) (lc' := [(4, _), (0, _), (1, _), (2, _), (3, _)]) hx d_Sr_base_15 rfl (by decide) rfl ?_
    refine g_aload (q := 19) hx d_Sr_base_17 rfl rfl ?_
    refine g_iload_n (q := 20) hx d_Sr_base_19 rfl rfl ?_
    refine g_ci (q := 23) (zrunV hx d_Sr_base_20 lk_Sr_124 rfl rfl hRow.1 rfl rfl (Nat.le_of_ble_eq_true rfl) (by decide) (by omega) (by omega) (c_Rr_has _ E Γ n _ R K (nI u) hRow.1 hRc (by omega))) rfl (fun r20 M1 p20 => ?_)
    obtain ⟨e20, p20⟩ := p20
    subst M1
    obtain rfl : r20 = nI 1 := (p20.resolve_right (fun q => q.2 ⟨u, hu, rfl⟩)).1
    clear p20
    refine g_if_ne (q := 26) (t := 36) hx d_Sr_base_23 rfl rfl (zb_ne0 (by omega)) (fun h23 => ?_) (fun h23 => ?_)
    · refine g_iload_n (q := 37) hx d_Sr_base_36 rfl rfl ?_
      refine g_if_lt (q := 40) (t := 54) hx d_Sr_base_37 rfl rfl (zb_lt0 (by omega)) (fun h37 => ?_) (fun h37 => ?_)
      · exact h37.elim
      · refine g_iload_n (q := 41) hx d_Sr_base_40 rfl rfl ?_
        refine g_aload (q := 43) hx d_Sr_base_41 rfl rfl ?_
        refine g_geta (q := 46) hx d_Sr_base_43 rfl fl_Sr_62 hRow.1 (r0 ()) (by first | exact Nat.succ_ne_zero _ | omega) ?_
        refine g_iload_n (q := 47) hx d_Sr_base_46 rfl rfl ?_
        refine g_aald (q := 48) hx d_Sr_base_47 rfl hRow.2.1 rfl (by omega) (by omega) (ri u (by omega)) (by omega) ?_
        refine g_geti (q := 51) hx d_Sr_base_48 rfl fl_Sr_117 (rs9 u (by omega)).1.1 hrr.1.2.2.1 ?_
        refine g_icmp_lt (q := 54) (t := 64) hx d_Sr_base_51 rfl rfl (nI_ltI (by omega) (by omega)) (fun h51 => ?_) (fun h51 => ?_)
        · refine g_aload (q := 66) hx d_Sr_base_64 rfl rfl ?_
          refine g_geta (q := 69) hx d_Sr_base_66 rfl fl_Sr_62 hRow.1 (r0 ()) (by first | exact Nat.succ_ne_zero _ | omega) ?_
          refine g_iload_n (q := 70) hx d_Sr_base_69 rfl rfl ?_
          refine g_aald (q := 71) hx d_Sr_base_70 rfl hRow.2.1 rfl (by omega) (by omega) (ri u (by omega)) (by omega) ?_
          refine g_geta (q := 74) hx d_Sr_base_71 rfl fl_Sr_143 (rs9 u (by omega)).1.1 (rs9 u (by omega)).2.2.2.1 (by first | exact Nat.succ_ne_zero _ | omega) ?_
          refine g_iload_n (q := 75) hx d_Sr_base_74 rfl rfl ?_
          refine g_iald (q := 76) hx d_Sr_base_75 rfl (rs9 u (by omega)).1.2.2.2 rfl (by omega) (by decide) (hrr.2.1 w hw) ?_
          exact g_iret hx d_Sr_base_76 rfl hQ ⟨Nat.le_refl _, Nat.le_refl _⟩ ⟨_, rfl, rfl, rfl, rfl, rfl⟩
        · exact absurd (by omega) h51
    · exact absurd h23 (by omega)
set_option maxHeartbeats 4000000 in
set_option maxRecDepth 100000 in
theorem c_Sr_at1 (l : Launch) (hl : l.stackTraces = false) (E : zE) (Γ : zG) (n : Nat) (M : zM) (x sh sp : Nat) (len c g k size : Nat) (ref arch : Nat → Nat) (fs hs : Nat → mRd) (ur : mRd) (hI : pI Γ M x sh sp len c g k size ref arch fs hs ur) (y : Int32) (hy : ¬ ∃ u : Nat, u < size ∧ y = nI u) : zCx l E Y_Sr_at 7 (1, 6) [.ref x, .int y] Γ n M "java/lang/IndexOutOfBoundsException" (n + 1) (fun M' => M' = M) := by
  refine zCx.of [(0, .ref x), (1, .int y)] (by decide) (Nat.le_of_ble_eq_true rfl) rfl (fun f hfl hx hno hQ => ?_)
  have htr : (zll f.1).stackTraces = false := by rw [hfl]; exact hl
  have h0 := hI.1.1.1
  have hx0 := hI.1.1.2
  have hsp := hI.1.2.2.1
  have hc24 := hI.2.2.1.2
  have hg1 := hI.2.2.2.2.1.2
  have hk3 := hI.2.2.2.2.2.2.1.2
  have hl160 := hI.2.1.2.2.1
  have hRs := hI.1.2.2.2.1
  have hF := hI.1.2.2.2.2.1
  have hf0 := hF.1
  have hf1 := hF.2.1
  have hA := hI.1.2.2.2.2.2.2.2.1
  have hcz := hI.2.2.1.1
  have hgz := hI.2.2.2.2.1.1
  have q0 : ∀ _ : Unit, zr M x 0 = x + 1 := fun _ => hI.1.2.1.1
  have q1 : ∀ _ : Unit, zr M x 1 = x + 3 := fun _ => hI.1.2.1.2.1
  have q4 : ∀ _ : Unit, zr M x 4 = sh := fun _ => hI.1.2.1.2.2.2.1
  have q5 : ∀ _ : Unit, zr M x 5 = sp := fun _ => hI.1.2.1.2.2.2.2.1
  have q6 : ∀ _ : Unit, zr M x 6 = x + 134 := fun _ => hI.1.2.1.2.2.2.2.2.1
  have f0 : ∀ _ : Unit, zr M (x + 3) 0 = x + 4 := fun _ => hF.2.2.1
  have fi : ∀ i, i < 25 → zr M (x + 4) i = x + 5 + 4 * i := fun i hi => (hF.2.2.2 i hi).1
  have fs9 : ∀ i, i < 25 → pSh Γ M.2.2 (x + 5 + 4 * i) := fun i hi => (hF.2.2.2 i hi).2
  have hs20 := hI.2.2.2.2.2.2.2.2.2.2.1
  refine g_aload_n (q := 1) hx d_Sr_at_0 rfl rfl ?_
  refine g_geto (q := 4) hx d_Sr_at_1 rfl fl_Sr_44 h0 (q6 ()) (by first | exact Nat.succ_ne_zero _ | omega) ?_
  refine g_iload_n (q := 5) hx d_Sr_at_4 rfl rfl ?_
  refine g_ci (q := 8) (zrunV hx d_Sr_at_5 lk_Sr_174 rfl rfl hA.1 rfl rfl (Nat.le_of_ble_eq_true rfl) (by decide) (by omega) (by omega) (c_Ar_has _ E Γ n _ (x + 134) size y hA.1 hI.2.2.2.2.2.2.2.2.1 hs20)) rfl (fun r5 M1 p5 => ?_)
  obtain ⟨e5, p5⟩ := p5
  subst M1
  obtain rfl : r5 = nI 0 := (p5.resolve_left (fun q => hy q.2)).1
  clear p5
  refine g_if_ne (q := 11) (t := 21) hx d_Sr_at_8 rfl rfl (zb_ne0 (by omega)) (fun h8 => ?_) (fun h8 => ?_)
  · exact absurd h8 (by omega)
  · exact g_thr (post := (fun M' => M' = M)) (ik := 91) (is := 175) (ic := 95) hx htr hno d_Sr_at_11 d_Sr_at_14 d_Sr_at_15 d_Sr_at_17 d_Sr_at_20 thr_IO zs_175 (by omega) (by decide) (by decide) (Nat.le_of_ble_eq_true rfl) rfl hQ
set_option maxHeartbeats 4000000 in
set_option maxRecDepth 100000 in
theorem c_Sr_corrupt1 (l : Launch) (hl : l.stackTraces = false) (E : zE) (Γ : zG) (n : Nat) (M : zM) (x sh sp : Nat) (len c g k size : Nat) (ref arch : Nat → Nat) (fs hs : Nat → mRd) (ur : mRd) (hI : pI Γ M x sh sp len c g k size ref arch fs hs ur) (y b : Int32) (hy : ¬ ∃ u : Nat, u < size ∧ y = nI u) : zCx l E Y_Sr_corrupt 7 (1, 6) [.ref x, .int y, .int b] Γ n M "java/lang/IndexOutOfBoundsException" (n + 1) (fun M' => M' = M) := by
  refine zCx.of [(0, .ref x), (1, .int y), (2, .int b)] (by decide) (Nat.le_of_ble_eq_true rfl) rfl (fun f hfl hx hno hQ => ?_)
  have htr : (zll f.1).stackTraces = false := by rw [hfl]; exact hl
  have h0 := hI.1.1.1
  have hx0 := hI.1.1.2
  have hsp := hI.1.2.2.1
  have hc24 := hI.2.2.1.2
  have hg1 := hI.2.2.2.2.1.2
  have hk3 := hI.2.2.2.2.2.2.1.2
  have hl160 := hI.2.1.2.2.1
  have hRs := hI.1.2.2.2.1
  have hF := hI.1.2.2.2.2.1
  have hf0 := hF.1
  have hf1 := hF.2.1
  have hA := hI.1.2.2.2.2.2.2.2.1
  have hcz := hI.2.2.1.1
  have hgz := hI.2.2.2.2.1.1
  have q0 : ∀ _ : Unit, zr M x 0 = x + 1 := fun _ => hI.1.2.1.1
  have q1 : ∀ _ : Unit, zr M x 1 = x + 3 := fun _ => hI.1.2.1.2.1
  have q4 : ∀ _ : Unit, zr M x 4 = sh := fun _ => hI.1.2.1.2.2.2.1
  have q5 : ∀ _ : Unit, zr M x 5 = sp := fun _ => hI.1.2.1.2.2.2.2.1
  have q6 : ∀ _ : Unit, zr M x 6 = x + 134 := fun _ => hI.1.2.1.2.2.2.2.2.1
  have f0 : ∀ _ : Unit, zr M (x + 3) 0 = x + 4 := fun _ => hF.2.2.1
  have fi : ∀ i, i < 25 → zr M (x + 4) i = x + 5 + 4 * i := fun i hi => (hF.2.2.2 i hi).1
  have fs9 : ∀ i, i < 25 → pSh Γ M.2.2 (x + 5 + 4 * i) := fun i hi => (hF.2.2.2 i hi).2
  have hs20 := hI.2.2.2.2.2.2.2.2.2.2.1
  refine g_aload_n (q := 1) hx d_Sr_corrupt_0 rfl rfl ?_
  refine g_geto (q := 4) hx d_Sr_corrupt_1 rfl fl_Sr_44 h0 (q6 ()) (by first | exact Nat.succ_ne_zero _ | omega) ?_
  refine g_iload_n (q := 5) hx d_Sr_corrupt_4 rfl rfl ?_
  refine g_ci (q := 8) (zrunV hx d_Sr_corrupt_5 lk_Sr_174 rfl rfl hA.1 rfl rfl (Nat.le_of_ble_eq_true rfl) (by decide) (by omega) (by omega) (c_Ar_has _ E Γ n _ (x + 134) size y hA.1 hI.2.2.2.2.2.2.2.2.1 hs20)) rfl (fun r5 M1 p5 => ?_)
  obtain ⟨e5, p5⟩ := p5
  subst M1
  obtain rfl : r5 = nI 0 := (p5.resolve_left (fun q => hy q.2)).1
  clear p5
  refine g_if_ne (q := 11) (t := 21) hx d_Sr_corrupt_8 rfl rfl (zb_ne0 (by omega)) (fun h8 => ?_) (fun h8 => ?_)
  · exact absurd h8 (by omega)
  · exact g_thr (post := (fun M' => M' = M)) (ik := 91) (is := 175) (ic := 95) hx htr hno d_Sr_corrupt_11 d_Sr_corrupt_14 d_Sr_corrupt_15 d_Sr_corrupt_17 d_Sr_corrupt_20 thr_IO zs_175 (by omega) (by decide) (by decide) (Nat.le_of_ble_eq_true rfl) rfl hQ
set_option maxHeartbeats 4000000 in
set_option maxRecDepth 100000 in
theorem c_Sr_at0 (l : Launch) (E : zE) (Γ : zG) (n : Nat) (M : zM) (x sh sp : Nat) (len c g k size : Nat) (ref arch : Nat → Nat) (fs hs : Nat → mRd) (ur : mRd) (hI : pI Γ M x sh sp len c g k size ref arch fs hs ur) (u : Nat) (hu : u < size) : zCt l E Y_Sr_at 7 (0, 0) [.ref x, .int (nI u)] Γ n M (zPi Γ n (fun v M' => v = nI (arch u) ∧ M' = M)) := by
  refine zCt.of [(0, .ref x), (1, .int (nI u))] (by decide) (Nat.le_of_ble_eq_true rfl) rfl (fun f hfl hx hQ => ?_)
  have h0 := hI.1.1.1
  have hx0 := hI.1.1.2
  have hsp := hI.1.2.2.1
  have hc24 := hI.2.2.1.2
  have hg1 := hI.2.2.2.2.1.2
  have hk3 := hI.2.2.2.2.2.2.1.2
  have hl160 := hI.2.1.2.2.1
  have hRs := hI.1.2.2.2.1
  have hF := hI.1.2.2.2.2.1
  have hf0 := hF.1
  have hf1 := hF.2.1
  have hA := hI.1.2.2.2.2.2.2.2.1
  have hcz := hI.2.2.1.1
  have hgz := hI.2.2.2.2.1.1
  have q0 : ∀ _ : Unit, zr M x 0 = x + 1 := fun _ => hI.1.2.1.1
  have q1 : ∀ _ : Unit, zr M x 1 = x + 3 := fun _ => hI.1.2.1.2.1
  have q4 : ∀ _ : Unit, zr M x 4 = sh := fun _ => hI.1.2.1.2.2.2.1
  have q5 : ∀ _ : Unit, zr M x 5 = sp := fun _ => hI.1.2.1.2.2.2.2.1
  have q6 : ∀ _ : Unit, zr M x 6 = x + 134 := fun _ => hI.1.2.1.2.2.2.2.2.1
  have f0 : ∀ _ : Unit, zr M (x + 3) 0 = x + 4 := fun _ => hF.2.2.1
  have fi : ∀ i, i < 25 → zr M (x + 4) i = x + 5 + 4 * i := fun i hi => (hF.2.2.2 i hi).1
  have fs9 : ∀ i, i < 25 → pSh Γ M.2.2 (x + 5 + 4 * i) := fun i hi => (hF.2.2.2 i hi).2
  have hs20 := hI.2.2.2.2.2.2.2.2.2.2.1
  refine g_aload_n (q := 1) hx d_Sr_at_0 rfl rfl ?_
  refine g_geto (q := 4) hx d_Sr_at_1 rfl fl_Sr_44 h0 (q6 ()) (by first | exact Nat.succ_ne_zero _ | omega) ?_
  refine g_iload_n (q := 5) hx d_Sr_at_4 rfl rfl ?_
  refine g_ci (q := 8) (zrunV hx d_Sr_at_5 lk_Sr_174 rfl rfl hA.1 rfl rfl (Nat.le_of_ble_eq_true rfl) (by decide) (by omega) (by omega) (c_Ar_has _ E Γ n _ (x + 134) size (nI u) hA.1 hI.2.2.2.2.2.2.2.2.1 hs20)) rfl (fun r5 M1 p5 => ?_)
  obtain ⟨e5, p5⟩ := p5
  subst M1
  obtain rfl : r5 = nI 1 := (p5.resolve_right (fun q => q.2 ⟨u, hu, rfl⟩)).1
  clear p5
  refine g_if_ne (q := 11) (t := 21) hx d_Sr_at_8 rfl rfl (zb_ne0 (by omega)) (fun h8 => ?_) (fun h8 => ?_)
  · refine g_aload_n (q := 22) hx d_Sr_at_21 rfl rfl ?_
    refine g_geto (q := 25) hx d_Sr_at_22 rfl fl_Sr_44 h0 (q6 ()) (by first | exact Nat.succ_ne_zero _ | omega) ?_
    refine g_geta (q := 28) hx d_Sr_at_25 rfl fl_Sr_177 hA.1 hA.2.2.1 (by first | exact Nat.succ_ne_zero _ | omega) ?_
    refine g_iload_n (q := 29) hx d_Sr_at_28 rfl rfl ?_
    refine g_iald (q := 30) hx d_Sr_at_29 rfl hA.2.1 rfl (by omega) (by decide) (hI.2.2.2.2.2.2.2.2.2.1 u hu) ?_
    exact g_iret hx d_Sr_at_30 rfl hQ ⟨Nat.le_refl _, Nat.le_refl _⟩ ⟨_, rfl, rfl, rfl, rfl, rfl⟩
  · exact absurd h8 (by omega)
set_option maxHeartbeats 4000000 in
set_option maxRecDepth 100000 in
theorem c_Sr_corrupt2 (l : Launch) (hl : l.stackTraces = false) (E : zE) (Γ : zG) (n : Nat) (M : zM) (x sh sp : Nat) (len c g k size : Nat) (ref arch : Nat → Nat) (fs hs : Nat → mRd) (ur : mRd) (hI : pI Γ M x sh sp len c g k size ref arch fs hs ur) (u : Nat) (b : Int32) (hu : u < size) (hb : ¬ ∃ v : Nat, 0 ≤ v ∧ v ≤ 255 ∧ b = nI v) : zCx l E Y_Sr_corrupt 7 (1, 6) [.ref x, .int (nI u), .int b] Γ n M "java/lang/IllegalArgumentException" (n + 1) (fun M' => M' = M) := by
  refine zCx.of [(0, .ref x), (1, .int (nI u)), (2, .int b)] (by decide) (Nat.le_of_ble_eq_true rfl) rfl (fun f hfl hx hno hQ => ?_)
  have htr : (zll f.1).stackTraces = false := by rw [hfl]; exact hl
  have h0 := hI.1.1.1
  have hx0 := hI.1.1.2
  have hsp := hI.1.2.2.1
  have hc24 := hI.2.2.1.2
  have hg1 := hI.2.2.2.2.1.2
  have hk3 := hI.2.2.2.2.2.2.1.2
  have hl160 := hI.2.1.2.2.1
  have hRs := hI.1.2.2.2.1
  have hF := hI.1.2.2.2.2.1
  have hf0 := hF.1
  have hf1 := hF.2.1
  have hA := hI.1.2.2.2.2.2.2.2.1
  have hcz := hI.2.2.1.1
  have hgz := hI.2.2.2.2.1.1
  have q0 : ∀ _ : Unit, zr M x 0 = x + 1 := fun _ => hI.1.2.1.1
  have q1 : ∀ _ : Unit, zr M x 1 = x + 3 := fun _ => hI.1.2.1.2.1
  have q4 : ∀ _ : Unit, zr M x 4 = sh := fun _ => hI.1.2.1.2.2.2.1
  have q5 : ∀ _ : Unit, zr M x 5 = sp := fun _ => hI.1.2.1.2.2.2.2.1
  have q6 : ∀ _ : Unit, zr M x 6 = x + 134 := fun _ => hI.1.2.1.2.2.2.2.2.1
  have f0 : ∀ _ : Unit, zr M (x + 3) 0 = x + 4 := fun _ => hF.2.2.1
  have fi : ∀ i, i < 25 → zr M (x + 4) i = x + 5 + 4 * i := fun i hi => (hF.2.2.2 i hi).1
  have fs9 : ∀ i, i < 25 → pSh Γ M.2.2 (x + 5 + 4 * i) := fun i hi => (hF.2.2.2 i hi).2
  have hs20 := hI.2.2.2.2.2.2.2.2.2.2.1
  refine g_aload_n (q := 1) hx d_Sr_corrupt_0 rfl rfl ?_
  refine g_geto (q := 4) hx d_Sr_corrupt_1 rfl fl_Sr_44 h0 (q6 ()) (by first | exact Nat.succ_ne_zero _ | omega) ?_
  refine g_iload_n (q := 5) hx d_Sr_corrupt_4 rfl rfl ?_
  refine g_ci (q := 8) (zrunV hx d_Sr_corrupt_5 lk_Sr_174 rfl rfl hA.1 rfl rfl (Nat.le_of_ble_eq_true rfl) (by decide) (by omega) (by omega) (c_Ar_has _ E Γ n _ (x + 134) size (nI u) hA.1 hI.2.2.2.2.2.2.2.2.1 hs20)) rfl (fun r5 M1 p5 => ?_)
  obtain ⟨e5, p5⟩ := p5
  subst M1
  obtain rfl : r5 = nI 1 := (p5.resolve_right (fun q => q.2 ⟨u, hu, rfl⟩)).1
  clear p5
  refine g_if_ne (q := 11) (t := 21) hx d_Sr_corrupt_8 rfl rfl (zb_ne0 (by omega)) (fun h8 => ?_) (fun h8 => ?_)
  · refine g_iload_n (q := 22) hx d_Sr_corrupt_21 rfl rfl ?_
    refine g_if_lt (q := 25) (t := 32) hx d_Sr_corrupt_22 rfl rfl Iff.rfl (fun h22 => ?_) (fun h22 => ?_)
    · exact g_thr (post := (fun M' => M' = M)) (ik := 65) (is := 180) (ic := 69) hx htr hno d_Sr_corrupt_32 d_Sr_corrupt_35 d_Sr_corrupt_36 d_Sr_corrupt_38 d_Sr_corrupt_41 thr_IA zs_180 (by omega) (by decide) (by decide) (Nat.le_of_ble_eq_true rfl) rfl hQ
    · refine g_iload_n (q := 26) hx d_Sr_corrupt_25 rfl rfl ?_
      refine g_sipush (q := 29) (v := nI 255) hx d_Sr_corrupt_26 rfl (by decide) ?_
      refine g_icmp_le (q := 32) (t := 42) hx d_Sr_corrupt_29 rfl rfl Iff.rfl (fun h29 => ?_) (fun h29 => ?_)
      · exact absurd (z_in (a := 0) (by rw [nI_0]; exact h22) h29 (by omega)) hb
      · exact g_thr (post := (fun M' => M' = M)) (ik := 65) (is := 180) (ic := 69) hx htr hno d_Sr_corrupt_32 d_Sr_corrupt_35 d_Sr_corrupt_36 d_Sr_corrupt_38 d_Sr_corrupt_41 thr_IA zs_180 (by omega) (by decide) (by decide) (Nat.le_of_ble_eq_true rfl) rfl hQ
  · exact absurd h8 (by omega)
set_option maxHeartbeats 4000000 in
set_option maxRecDepth 100000 in
theorem c_Sr_corrupt0 (l : Launch) (E : zE) (Γ : zG) (n : Nat) (M : zM) (x sh sp : Nat) (len c g k size : Nat) (ref arch : Nat → Nat) (fs hs : Nat → mRd) (ur : mRd) (hI : pI Γ M x sh sp len c g k size ref arch fs hs ur) (u v : Nat) (hu : u < size) (hv : v ≤ 255) : zCt l E Y_Sr_corrupt 7 (0, 0) [.ref x, .int (nI u), .int (nI v)] Γ n M (zPv Γ n (fun M' => kX x M M' ∧ pI Γ M' x sh sp len c g k size ref (mUp arch u v) fs hs ur)) := by
  refine zCt.of [(0, .ref x), (1, .int (nI u)), (2, .int (nI v))] (by decide) (Nat.le_of_ble_eq_true rfl) rfl (fun f hfl hx hQ => ?_)
  have h0 := hI.1.1.1
  have hx0 := hI.1.1.2
  have hsp := hI.1.2.2.1
  have hc24 := hI.2.2.1.2
  have hg1 := hI.2.2.2.2.1.2
  have hk3 := hI.2.2.2.2.2.2.1.2
  have hl160 := hI.2.1.2.2.1
  have hRs := hI.1.2.2.2.1
  have hF := hI.1.2.2.2.2.1
  have hf0 := hF.1
  have hf1 := hF.2.1
  have hA := hI.1.2.2.2.2.2.2.2.1
  have hcz := hI.2.2.1.1
  have hgz := hI.2.2.2.2.1.1
  have q0 : ∀ _ : Unit, zr M x 0 = x + 1 := fun _ => hI.1.2.1.1
  have q1 : ∀ _ : Unit, zr M x 1 = x + 3 := fun _ => hI.1.2.1.2.1
  have q4 : ∀ _ : Unit, zr M x 4 = sh := fun _ => hI.1.2.1.2.2.2.1
  have q5 : ∀ _ : Unit, zr M x 5 = sp := fun _ => hI.1.2.1.2.2.2.2.1
  have q6 : ∀ _ : Unit, zr M x 6 = x + 134 := fun _ => hI.1.2.1.2.2.2.2.2.1
  have f0 : ∀ _ : Unit, zr M (x + 3) 0 = x + 4 := fun _ => hF.2.2.1
  have fi : ∀ i, i < 25 → zr M (x + 4) i = x + 5 + 4 * i := fun i hi => (hF.2.2.2 i hi).1
  have fs9 : ∀ i, i < 25 → pSh Γ M.2.2 (x + 5 + 4 * i) := fun i hi => (hF.2.2.2 i hi).2
  have hs20 := hI.2.2.2.2.2.2.2.2.2.2.1
  refine g_aload_n (q := 1) hx d_Sr_corrupt_0 rfl rfl ?_
  refine g_geto (q := 4) hx d_Sr_corrupt_1 rfl fl_Sr_44 h0 (q6 ()) (by first | exact Nat.succ_ne_zero _ | omega) ?_
  refine g_iload_n (q := 5) hx d_Sr_corrupt_4 rfl rfl ?_
  refine g_ci (q := 8) (zrunV hx d_Sr_corrupt_5 lk_Sr_174 rfl rfl hA.1 rfl rfl (Nat.le_of_ble_eq_true rfl) (by decide) (by omega) (by omega) (c_Ar_has _ E Γ n _ (x + 134) size (nI u) hA.1 hI.2.2.2.2.2.2.2.2.1 hs20)) rfl (fun r5 M1 p5 => ?_)
  obtain ⟨e5, p5⟩ := p5
  subst M1
  obtain rfl : r5 = nI 1 := (p5.resolve_right (fun q => q.2 ⟨u, hu, rfl⟩)).1
  clear p5
  refine g_if_ne (q := 11) (t := 21) hx d_Sr_corrupt_8 rfl rfl (zb_ne0 (by omega)) (fun h8 => ?_) (fun h8 => ?_)
  · refine g_iload_n (q := 22) hx d_Sr_corrupt_21 rfl rfl ?_
    refine g_if_lt (q := 25) (t := 32) hx d_Sr_corrupt_22 rfl rfl (zb_lt0 (by omega)) (fun h22 => ?_) (fun h22 => ?_)
    · exact h22.elim
    · refine g_iload_n (q := 26) hx d_Sr_corrupt_25 rfl rfl ?_
      refine g_sipush (q := 29) (v := nI 255) hx d_Sr_corrupt_26 rfl (by decide) ?_
      refine g_icmp_le (q := 32) (t := 42) hx d_Sr_corrupt_29 rfl rfl (nI_leI (by omega) (by omega)) (fun h29 => ?_) (fun h29 => ?_)
      · refine g_aload_n (q := 43) hx d_Sr_corrupt_42 rfl rfl ?_
        refine g_geto (q := 46) hx d_Sr_corrupt_43 rfl fl_Sr_44 h0 (q6 ()) (by first | exact Nat.succ_ne_zero _ | omega) ?_
        refine g_geta (q := 49) hx d_Sr_corrupt_46 rfl fl_Sr_177 hA.1 hA.2.2.1 (by first | exact Nat.succ_ne_zero _ | omega) ?_
        refine g_iload_n (q := 50) hx d_Sr_corrupt_49 rfl rfl ?_
        refine g_iload_n (q := 51) hx d_Sr_corrupt_50 rfl rfl ?_
        refine g_iast (q := 52) hx d_Sr_corrupt_51 rfl hA.2.1 rfl (by omega) (by decide) ?_
        exact g_vret hx d_Sr_corrupt_52 rfl hQ ⟨Nat.le_refl _, Nat.le_refl _⟩ ⟨rfl, rfl, rfl, kX.rf.si (by omega), by
              obtain ⟨i1, i2, i3, i4, i5, i6, i7, i8, i9⟩ := hI
              have e2 : ∀ a, a ≠ x + 134 + 1 → (zsi M (x + 134 + 1) u (nI v)).1 a = M.1 a := fun a q => zi_b q
              have e9 : ∀ a j, a ≠ x + 134 + 1 → zi (zsi M (x + 134 + 1) u (nI v)) a j = zi M a j := fun a j q => zi_a q
              refine ⟨i1, i2.kept (e2 _ (by omega)) (e2 _ (by omega)), ⟨(e9 _ _ (by omega)).trans i3.1, i3.2⟩, fun i hi => (i4 i hi).kept (fun b q1 q2 => e2 b (by omega)), ⟨(e9 _ _ (by omega)).trans i5.1, i5.2⟩, fun hg => (i6 hg).kept (fun b q1 q2 => e2 b (by omega)), ⟨(e9 _ _ (by omega)).trans i7.1, i7.2⟩, fun i hi => (i8 i hi).kept (fun b q1 q2 => e2 b (by omega)), (e9 _ _ (by omega)).trans i9.1, fun j hj => ?_, i9.2.2.1, fun j => ?_⟩
              · by_cases e : j = u
                · subst e; rw [zi_s, mUp_s]
                · rw [zi_k e, mUp_n e]; exact i9.2.1 j hj
              · unfold mUp; split
                · omega
                · exact i9.2.2.2 j⟩
      · exact absurd (by omega) h29
  · exact absurd h8 (by omega)
set_option maxHeartbeats 4000000 in
set_option maxRecDepth 100000 in
theorem c_Sr_unpack1 (l : Launch) (hl : l.stackTraces = false) (E : zE) (Γ : zG) (n : Nat) (M : zM) (x sh sp : Nat) (len c g k size : Nat) (ref arch : Nat → Nat) (fs hs : Nat → mRd) (ur : mRd) (hI : pI Γ M x sh sp len c g k size ref arch fs hs ur) (y : Int32) (hy : ¬ ∃ i : Nat, y = nI i ∧ mBeg arch size i < size) : zCx l E Y_Sr_unpack 7 (1, 6) [.ref x, .int y] Γ n M "java/lang/IndexOutOfBoundsException" (n + 1) (fun M' => M' = M) := by
  refine zCx.of [(0, .ref x), (1, .int y)] (by decide) (Nat.le_of_ble_eq_true rfl) rfl (fun f hfl hx hno hQ => ?_)
  have htr : (zll f.1).stackTraces = false := by rw [hfl]; exact hl
  have h0 := hI.1.1.1
  have hx0 := hI.1.1.2
  have hsp := hI.1.2.2.1
  have hc24 := hI.2.2.1.2
  have hg1 := hI.2.2.2.2.1.2
  have hk3 := hI.2.2.2.2.2.2.1.2
  have hl160 := hI.2.1.2.2.1
  have hRs := hI.1.2.2.2.1
  have hF := hI.1.2.2.2.2.1
  have hf0 := hF.1
  have hf1 := hF.2.1
  have hA := hI.1.2.2.2.2.2.2.2.1
  have hcz := hI.2.2.1.1
  have hgz := hI.2.2.2.2.1.1
  have q0 : ∀ _ : Unit, zr M x 0 = x + 1 := fun _ => hI.1.2.1.1
  have q1 : ∀ _ : Unit, zr M x 1 = x + 3 := fun _ => hI.1.2.1.2.1
  have q4 : ∀ _ : Unit, zr M x 4 = sh := fun _ => hI.1.2.1.2.2.2.1
  have q5 : ∀ _ : Unit, zr M x 5 = sp := fun _ => hI.1.2.1.2.2.2.2.1
  have q6 : ∀ _ : Unit, zr M x 6 = x + 134 := fun _ => hI.1.2.1.2.2.2.2.2.1
  have f0 : ∀ _ : Unit, zr M (x + 3) 0 = x + 4 := fun _ => hF.2.2.1
  have fi : ∀ i, i < 25 → zr M (x + 4) i = x + 5 + 4 * i := fun i hi => (hF.2.2.2 i hi).1
  have fs9 : ∀ i, i < 25 → pSh Γ M.2.2 (x + 5 + 4 * i) := fun i hi => (hF.2.2.2 i hi).2
  have hs20 := hI.2.2.2.2.2.2.2.2.2.2.1
  refine g_aload_n (q := 1) hx d_Sr_unpack_0 rfl rfl ?_
  refine g_geto (q := 4) hx d_Sr_unpack_1 rfl fl_Sr_44 h0 (q6 ()) (by first | exact Nat.succ_ne_zero _ | omega) ?_
  refine g_iload_n (q := 5) hx d_Sr_unpack_4 rfl rfl ?_
  refine g_ci (q := 8) (zrunV hx d_Sr_unpack_5 lk_Sr_182 rfl rfl hA.1 rfl rfl (Nat.le_of_ble_eq_true rfl) (by decide) (by omega) (by omega) (c_Ar_beginOf _ E Γ n _ (x + 134) size arch y hA hI.2.2.2.2.2.2.2.2)) rfl (fun r5 M1 p5 => ?_)
  obtain ⟨e5, p5⟩ := p5
  subst M1
  obtain rfl : r5 = -1 := by
    rcases p5 with ⟨i, w1, w2, -⟩ | q
    · exact absurd ⟨i, w1, w2⟩ hy
    · exact q.1
  clear p5
  refine g_istore_n (q := 9) (lc' := [(2, _), (0, _), (1, _)]) hx d_Sr_unpack_8 rfl (by decide) rfl ?_
  refine g_iload_n (q := 10) hx d_Sr_unpack_9 rfl rfl ?_
  refine g_iconst (q := 11) (v := (-1)) hx d_Sr_unpack_10 rfl (by decide) ?_
  refine g_icmp_ne (q := 14) (t := 24) hx d_Sr_unpack_11 rfl rfl Iff.rfl (fun h11 => ?_) (fun h11 => ?_)
  · exact absurd rfl h11
  · exact g_thr (post := (fun M' => M' = M)) (ik := 91) (is := 186) (ic := 95) hx htr hno d_Sr_unpack_14 d_Sr_unpack_17 d_Sr_unpack_18 d_Sr_unpack_20 d_Sr_unpack_23 thr_IO zs_186 (by omega) (by decide) (by decide) (Nat.le_of_ble_eq_true rfl) rfl hQ
theorem nI_ne_m1 (b : Nat) (h : b < 2 ^ 31) : ¬ nI b = -1 := fun q => nI_pos h (by rw [q]; decide)
/-- what readsSoundly leaves of the rest -/
theorem sound_keeps {Γ : zG} {M M' : zM} {x sh sp : Nat} {len c g k size : Nat} {ref arch : Nat → Nat} {fs hs : Nat → mRd} {ur : mRd} (hI : pI Γ M x sh sp len c g k size ref arch fs hs ur) (z : zOm (sSd sp (x + 136) (x + 139)) M M') : pI Γ M' x sh sp len c g k size ref arch fs hs ur := by
  have hsp := hI.1.2.2.1
  obtain ⟨i1, i2, i3, i4, i5, i6, i7, i8, i9⟩ := hI
  have hc := i3.2
  have hk := i7.2
  have e2 : ∀ a, ¬ sSd sp (x + 136) (x + 139) a → M'.1 a = M.1 a := fun a q => (z.2 a q).1
  have e9 : ∀ a j, ¬ sSd sp (x + 136) (x + 139) a → zi M' a j = zi M a j := fun a j q => by
    show M'.1 a j = M.1 a j
    rw [e2 a q]
  exact ⟨by rw [z.r]; exact i1, i2.kept (e2 _ (by unfold sSd; omega)) (e2 _ (by unfold sSd; omega)), ⟨(e9 _ _ (by unfold sSd; omega)).trans i3.1, i3.2⟩, fun i hi => (i4 i hi).kept (fun b q1 q2 => e2 b (by unfold sSd; omega)), ⟨(e9 _ _ (by unfold sSd; omega)).trans i5.1, i5.2⟩, fun hg => (i6 hg).kept (fun b q1 q2 => e2 b (by unfold sSd; omega)), ⟨(e9 _ _ (by unfold sSd; omega)).trans i7.1, i7.2⟩, fun i hi => (i8 i hi).kept (fun b q1 q2 => e2 b (by unfold sSd; omega)), i9.kept (e2 _ (by unfold sSd; omega)) (e2 _ (by unfold sSd; omega))⟩
set_option maxHeartbeats 4000000 in
set_option maxRecDepth 100000 in
theorem c_Sr_unpack2 (l : Launch) (hl : l.stackTraces = false) (E : zE) (Γ : zG) (n : Nat) (M : zM) (x sh sp : Nat) (len c g k size : Nat) (ref arch : Nat → Nat) (fs hs : Nat → mRd) (ur : mRd) (hI : pI Γ M x sh sp len c g k size ref arch fs hs ur) (u : Nat) (hu : mBeg arch size u < size) (ht : mTake ref len arch size (mBeg arch size u) = none) : zCx l E Y_Sr_unpack 7 (1, 6) [.ref x, .int (nI u)] Γ n M "java/lang/IllegalArgumentException" (n + 1) (fun M' => kX x M M' ∧ pI Γ M' x sh sp len c g k size ref arch fs hs ur) := by
  refine zCx.of [(0, .ref x), (1, .int (nI u))] (by decide) (Nat.le_of_ble_eq_true rfl) rfl (fun f hfl hx hno hQ => ?_)
  have htr : (zll f.1).stackTraces = false := by rw [hfl]; exact hl
  have h0 := hI.1.1.1
  have hx0 := hI.1.1.2
  have hsp := hI.1.2.2.1
  have hc24 := hI.2.2.1.2
  have hg1 := hI.2.2.2.2.1.2
  have hk3 := hI.2.2.2.2.2.2.1.2
  have hl160 := hI.2.1.2.2.1
  have hRs := hI.1.2.2.2.1
  have hF := hI.1.2.2.2.2.1
  have hf0 := hF.1
  have hf1 := hF.2.1
  have hA := hI.1.2.2.2.2.2.2.2.1
  have hcz := hI.2.2.1.1
  have hgz := hI.2.2.2.2.1.1
  have q0 : ∀ _ : Unit, zr M x 0 = x + 1 := fun _ => hI.1.2.1.1
  have q1 : ∀ _ : Unit, zr M x 1 = x + 3 := fun _ => hI.1.2.1.2.1
  have q4 : ∀ _ : Unit, zr M x 4 = sh := fun _ => hI.1.2.1.2.2.2.1
  have q5 : ∀ _ : Unit, zr M x 5 = sp := fun _ => hI.1.2.1.2.2.2.2.1
  have q6 : ∀ _ : Unit, zr M x 6 = x + 134 := fun _ => hI.1.2.1.2.2.2.2.2.1
  have f0 : ∀ _ : Unit, zr M (x + 3) 0 = x + 4 := fun _ => hF.2.2.1
  have fi : ∀ i, i < 25 → zr M (x + 4) i = x + 5 + 4 * i := fun i hi => (hF.2.2.2 i hi).1
  have fs9 : ∀ i, i < 25 → pSh Γ M.2.2 (x + 5 + 4 * i) := fun i hi => (hF.2.2.2 i hi).2
  have hs20 := hI.2.2.2.2.2.2.2.2.2.2.1
  refine g_aload_n (q := 1) hx d_Sr_unpack_0 rfl rfl ?_
  refine g_geto (q := 4) hx d_Sr_unpack_1 rfl fl_Sr_44 h0 (q6 ()) (by first | exact Nat.succ_ne_zero _ | omega) ?_
  refine g_iload_n (q := 5) hx d_Sr_unpack_4 rfl rfl ?_
  refine g_ci (q := 8) (zrunV hx d_Sr_unpack_5 lk_Sr_182 rfl rfl hA.1 rfl rfl (Nat.le_of_ble_eq_true rfl) (by decide) (by omega) (by omega) (c_Ar_beginOf _ E Γ n _ (x + 134) size arch (nI u) hA hI.2.2.2.2.2.2.2.2)) rfl (fun r5 M1 p5 => ?_)
  obtain ⟨e5, p5⟩ := p5
  subst M1
  have hb9 : mBeg arch size u < size := hu
  obtain rfl : r5 = nI (mBeg arch size u) := by
    have h5 := mBeg_ge arch size u
    rcases p5 with ⟨i, w1, w2, w3⟩ | q
    · have h6 := mBeg_ge arch size i
      obtain rfl := (nI_eq (by omega) (by omega)).mp w1
      exact w3
    · exact absurd ⟨u, by omega, rfl, hu⟩ q.2
  clear p5
  generalize hbe : mBeg arch size u = b at *
  refine g_istore_n (q := 9) (lc' := [(2, _), (0, _), (1, _)]) hx d_Sr_unpack_8 rfl (by decide) rfl ?_
  refine g_iload_n (q := 10) hx d_Sr_unpack_9 rfl rfl ?_
  refine g_iconst (q := 11) (v := (-1)) hx d_Sr_unpack_10 rfl (by decide) ?_
  refine g_icmp_ne (q := 14) (t := 24) hx d_Sr_unpack_11 rfl rfl (Iff.intro (fun q => trivial) (fun q => nI_ne_m1 _ (by omega))) (fun h11 => ?_) (fun h11 => ?_)
  · refine g_aload_n (q := 25) hx d_Sr_unpack_24 rfl rfl ?_
    refine g_iload_n (q := 26) hx d_Sr_unpack_25 rfl rfl ?_
    refine g_ci (q := 29) (zrunV hx d_Sr_unpack_26 lk_Sr_188 rfl rfl h0 rfl rfl (Nat.le_of_ble_eq_true rfl) (by decide) (by omega) (by omega) (c_Sr_readsSoundly _ E Γ n _ x (x + 1) sp (x + 134) (x + 136) (x + 139) len size b ref arch h0 (q0 ()) (q5 ()) (q6 ()) hI.1.2.1.2.2.2.2.2.2.1 hI.1.2.1.2.2.2.2.2.2.2 (by omega) hRs hI.2.1 hI.1.2.2.2.2.2.2.1.2 hA hI.2.2.2.2.2.2.2.2 hI.1.2.2.2.2.2.2.2.2.1 hI.1.2.2.2.2.2.2.2.2.2 (by omega))) rfl (fun r26 M2 p26 => ?_)
    obtain ⟨z2, p26⟩ := p26
    obtain rfl : r26 = nI 0 := by
      rcases p26 with ⟨-, rs, e9, -⟩ | q
      · rw [e9] at ht; exact (nomatch ht)
      · exact q.1
    clear p26
    refine g_if_ne (q := 32) (t := 42) hx d_Sr_unpack_29 rfl rfl (zb_ne0 (by omega)) (fun h29 => ?_) (fun h29 => ?_)
    · exact absurd h29 (by omega)
    · exact g_thr (post := (fun M' => kX x M M' ∧ pI Γ M' x sh sp len c g k size ref arch fs hs ur)) (ik := 65) (is := 191) (ic := 69) hx htr hno d_Sr_unpack_32 d_Sr_unpack_35 d_Sr_unpack_36 d_Sr_unpack_38 d_Sr_unpack_41 thr_IA zs_191 (by omega) (by decide) (by decide) (Nat.le_of_ble_eq_true rfl) (And.intro (kX.om z2 (fun a q => by unfold sSd at q; omega)) (sound_keeps hI z2)) hQ
  · exact absurd trivial h11
theorem mTs_len {by_ ref : Nat → Nat} {len : Nat} : ∀ (n b : Nat) (s : mDe) (l : List mRd), mTs by_ ref len n b s = some l → l.length = n
  | 0, b, s, l, h => by
    simp only [mTs] at h
    rw [← Option.some.inj h]; rfl
  | n + 1, b, s, l, h => by
    simp only [mTs] at h
    split at h
    · exact (nomatch h)
    · split at h
      · exact (nomatch h)
      · rename_i l' e
        rw [← Option.some.inj h, List.length_cons, mTs_len n _ _ _ e]
theorem mTake_len {ref : Nat → Nat} {len : Nat} {arch : Nat → Nat} {size b : Nat} {rs : List mRd} (h : mTake ref len arch size b = some rs) : 1 ≤ rs.length ∧ rs.length ≤ 3 := by
  unfold mTake at h
  split at h
  · exact (nomatch h)
  · split at h
    · exact (nomatch h)
    · split at h
      · exact (nomatch h)
      · rename_i l e
        split at h
        · rw [← Option.some.inj h, mTs_len _ _ _ _ e]; omega
        · exact (nomatch h)
set_option maxHeartbeats 4000000 in
set_option maxRecDepth 100000 in
theorem c_Sr_unpack0 (l : Launch) (E : zE) (Γ : zG) (n : Nat) (M : zM) (x sh sp : Nat) (len c g k size : Nat) (ref arch : Nat → Nat) (fs hs : Nat → mRd) (ur : mRd) (hI : pI Γ M x sh sp len c g k size ref arch fs hs ur) (u : Nat) (rs : List mRd) (hu : mBeg arch size u < size) (ht : mTake ref len arch size (mBeg arch size u) = some rs) : zCt l E Y_Sr_unpack 7 (0, 0) [.ref x, .int (nI u)] Γ n M (zPi Γ n (fun v M' => v = nI rs.length ∧ kX x M M' ∧ pI Γ M' x sp sh len c g rs.length size ref arch fs (mAt rs) ur)) := by
  refine zCt.of [(0, .ref x), (1, .int (nI u))] (by decide) (Nat.le_of_ble_eq_true rfl) rfl (fun f hfl hx hQ => ?_)
  have h0 := hI.1.1.1
  have hx0 := hI.1.1.2
  have hsp := hI.1.2.2.1
  have hc24 := hI.2.2.1.2
  have hg1 := hI.2.2.2.2.1.2
  have hk3 := hI.2.2.2.2.2.2.1.2
  have hl160 := hI.2.1.2.2.1
  have hRs := hI.1.2.2.2.1
  have hF := hI.1.2.2.2.2.1
  have hf0 := hF.1
  have hf1 := hF.2.1
  have hA := hI.1.2.2.2.2.2.2.2.1
  have hcz := hI.2.2.1.1
  have hgz := hI.2.2.2.2.1.1
  have q0 : ∀ _ : Unit, zr M x 0 = x + 1 := fun _ => hI.1.2.1.1
  have q1 : ∀ _ : Unit, zr M x 1 = x + 3 := fun _ => hI.1.2.1.2.1
  have q4 : ∀ _ : Unit, zr M x 4 = sh := fun _ => hI.1.2.1.2.2.2.1
  have q5 : ∀ _ : Unit, zr M x 5 = sp := fun _ => hI.1.2.1.2.2.2.2.1
  have q6 : ∀ _ : Unit, zr M x 6 = x + 134 := fun _ => hI.1.2.1.2.2.2.2.2.1
  have f0 : ∀ _ : Unit, zr M (x + 3) 0 = x + 4 := fun _ => hF.2.2.1
  have fi : ∀ i, i < 25 → zr M (x + 4) i = x + 5 + 4 * i := fun i hi => (hF.2.2.2 i hi).1
  have fs9 : ∀ i, i < 25 → pSh Γ M.2.2 (x + 5 + 4 * i) := fun i hi => (hF.2.2.2 i hi).2
  have hs20 := hI.2.2.2.2.2.2.2.2.2.2.1
  refine g_aload_n (q := 1) hx d_Sr_unpack_0 rfl rfl ?_
  refine g_geto (q := 4) hx d_Sr_unpack_1 rfl fl_Sr_44 h0 (q6 ()) (by first | exact Nat.succ_ne_zero _ | omega) ?_
  refine g_iload_n (q := 5) hx d_Sr_unpack_4 rfl rfl ?_
  refine g_ci (q := 8) (zrunV hx d_Sr_unpack_5 lk_Sr_182 rfl rfl hA.1 rfl rfl (Nat.le_of_ble_eq_true rfl) (by decide) (by omega) (by omega) (c_Ar_beginOf _ E Γ n _ (x + 134) size arch (nI u) hA hI.2.2.2.2.2.2.2.2)) rfl (fun r5 M1 p5 => ?_)
  obtain ⟨e5, p5⟩ := p5
  subst M1
  have hb9 : mBeg arch size u < size := hu
  obtain rfl : r5 = nI (mBeg arch size u) := by
    have h5 := mBeg_ge arch size u
    rcases p5 with ⟨i, w1, w2, w3⟩ | q
    · have h6 := mBeg_ge arch size i
      obtain rfl := (nI_eq (by omega) (by omega)).mp w1
      exact w3
    · exact absurd ⟨u, by omega, rfl, hu⟩ q.2
  clear p5
  generalize hbe : mBeg arch size u = b at *
  refine g_istore_n (q := 9) (lc' := [(2, _), (0, _), (1, _)]) hx d_Sr_unpack_8 rfl (by decide) rfl ?_
  refine g_iload_n (q := 10) hx d_Sr_unpack_9 rfl rfl ?_
  refine g_iconst (q := 11) (v := (-1)) hx d_Sr_unpack_10 rfl (by decide) ?_
  refine g_icmp_ne (q := 14) (t := 24) hx d_Sr_unpack_11 rfl rfl (Iff.intro (fun q => trivial) (fun q => nI_ne_m1 _ (by omega))) (fun h11 => ?_) (fun h11 => ?_)
  · refine g_aload_n (q := 25) hx d_Sr_unpack_24 rfl rfl ?_
    refine g_iload_n (q := 26) hx d_Sr_unpack_25 rfl rfl ?_
    refine g_ci (q := 29) (zrunV hx d_Sr_unpack_26 lk_Sr_188 rfl rfl h0 rfl rfl (Nat.le_of_ble_eq_true rfl) (by decide) (by omega) (by omega) (c_Sr_readsSoundly _ E Γ n _ x (x + 1) sp (x + 134) (x + 136) (x + 139) len size b ref arch h0 (q0 ()) (q5 ()) (q6 ()) hI.1.2.1.2.2.2.2.2.2.1 hI.1.2.1.2.2.2.2.2.2.2 (by omega) hRs hI.2.1 hI.1.2.2.2.2.2.2.1.2 hA hI.2.2.2.2.2.2.2.2 hI.1.2.2.2.2.2.2.2.2.1 hI.1.2.2.2.2.2.2.2.2.2 (by omega))) rfl (fun r26 M2 p26 => ?_)
    obtain ⟨z2, p26⟩ := p26
    obtain ⟨rfl, rs', e9, h9, h8⟩ : r26 = nI 1 ∧ ∃ rs', mTake ref len arch size b = some rs' ∧ zi M2 sp 1 = nI rs'.length ∧ pThree M2 sp ref len rs' := by
      rcases p26 with q | q
      · exact q
      · rw [q.2] at ht; exact (nomatch ht)
    obtain rfl : rs' = rs := Option.some.inj (e9.symm.trans ht)
    clear p26
    have hI2 := sound_keeps hI z2
    have q42 : ∀ _ : Unit, zr M2 x 4 = sh := fun _ => hI2.1.2.1.2.2.2.1
    have q52 : ∀ _ : Unit, zr M2 x 5 = sp := fun _ => hI2.1.2.1.2.2.2.2.1
    have hsp0 : sp ≠ 0 := by omega
    have hsh0 : sh ≠ 0 := by omega
    refine g_if_ne (q := 32) (t := 42) hx d_Sr_unpack_29 rfl rfl (zb_ne0 (by omega)) (fun h29 => ?_) (fun h29 => ?_)
    · refine g_aload_n (q := 43) hx d_Sr_unpack_42 rfl rfl ?_
      refine g_geto (q := 46) hx d_Sr_unpack_43 rfl fl_Sr_35 h0 (q42 ()) (by first | exact Nat.succ_ne_zero _ | omega) ?_
      refine g_astore_n (q := 47) (lc' := [(3, _), (2, _), (0, _), (1, _)]) hx d_Sr_unpack_46 rfl (by decide) rfl ?_
      refine g_aload_n (q := 48) hx d_Sr_unpack_47 rfl rfl ?_
      refine g_aload_n (q := 49) hx d_Sr_unpack_48 rfl rfl ?_
      refine g_geto (q := 52) hx d_Sr_unpack_49 rfl fl_Sr_38 h0 (q52 ()) (by first | exact Nat.succ_ne_zero _ | omega) ?_
      refine g_puto (q := 55) hx d_Sr_unpack_52 rfl fl_Sr_35 nf_6_4 h0 (by omega) ?_
      refine g_aload_n (q := 56) hx d_Sr_unpack_55 rfl rfl ?_
      refine g_aload_n (q := 57) hx d_Sr_unpack_56 rfl rfl ?_
      refine g_puto (q := 60) hx d_Sr_unpack_57 rfl fl_Sr_38 nf_6_5 h0 (by omega) ?_
      refine g_aload_n (q := 61) hx d_Sr_unpack_60 rfl rfl ?_
      refine g_geto (q := 64) hx d_Sr_unpack_61 rfl fl_Sr_35 h0 ((zr_k (by decide)).trans (zr_s _ _ _ _)) (by first | exact Nat.succ_ne_zero _ | omega) ?_
      refine g_geti (q := 67) hx d_Sr_unpack_64 rfl fl_Sr_72 hI.1.2.2.2.2.2.2.1.2.1 h9 ?_
      exact g_iret hx d_Sr_unpack_67 rfl hQ ⟨Nat.le_refl _, Nat.le_refl _⟩ ⟨_, rfl, rfl, rfl, rfl, ((kX.om z2 (fun a q => by unfold sSd at q; omega)).sr (by omega)).sr (by omega), by
            obtain ⟨i1, i2, i3, i4, i5, i6, i7, i8, i9⟩ := hI2
            obtain ⟨j1, j2, j3, j4, j5, j6, ⟨j7, j8⟩, jA, jE, jD⟩ := i1
            have e2 : ∀ b, b ≠ x → (zsr (zsr M2 x 4 sp) x 5 sh).2.2 b = M2.2.2 b := fun b hb => (va_up_ne _ _ hb).trans (va_up_ne _ _ hb)
            have e3 : ∀ j, j ≠ 4 → j ≠ 5 → (zsr (zsr M2 x 4 sp) x 5 sh).2.2 x j = M2.2.2 x j := fun j h4 h5 => (zr_k (M := zsr M2 x 4 sp) h5).trans (zr_k h4)
            have hle := (mTake_len ht).2
            refine ⟨⟨j1, ⟨(e3 0 (by decide) (by decide)).trans j2.1, (e3 1 (by decide) (by decide)).trans j2.2.1, (e3 3 (by decide) (by decide)).trans j2.2.2.1, (zr_k (by decide)).trans (zr_s _ _ _ _), zr_s _ _ _ _, (e3 6 (by decide) (by decide)).trans j2.2.2.2.2.2.1, (e3 7 (by decide) (by decide)).trans j2.2.2.2.2.2.2.1, (e3 8 (by decide) (by decide)).trans j2.2.2.2.2.2.2.2⟩, by omega, ?_, j5.kp (fun b q1 q2 => e2 b (by omega)), j6, ⟨j8.kp (fun b q1 q2 => e2 b (by omega)), j7.kp (fun b q1 q2 => e2 b (by omega))⟩, ?_, ?_, ?_⟩, i2, i3, i4, i5, i6, ⟨h9, hle⟩, fun i hi => (h8 i hi).1, i9⟩
            · unfold pRs at j4 ⊢; rw [e2 _ (by omega)]; exact j4
            · unfold pAs at jA ⊢; rw [e2 _ (by omega)]; exact jA
            · unfold pEs at jE ⊢; rw [e2 _ (by omega)]; exact jE
            · unfold pDs at jD ⊢; rw [e2 _ (by omega)]; exact jD⟩
    · exact absurd h29 (by omega)
  · exact absurd trivial h11
