theorem zCt.mono {l : Launch} {E : zE} {Y : zY} {d : Nat} {kk : Nat × Nat} {av : List Value} {Γ : zG} {n : Nat} {M : zM} {post post' : zP} (h : zCt l E Y d kk av Γ n M post) (hp : ∀ v Γ' n' M', post v Γ' n' M' → post' v Γ' n' M') : zCt l E Y d kk av Γ n M post' := by
  intro p e ha hc hk s m args below h1 h2 h3 h4
  obtain ⟨k, o, g1, g2, g3, ⟨⟨⟨v, Γ', n', M', e1, e2, e3⟩, e4⟩, e5⟩⟩ := h p e ha hc hk s m args below h1 h2 h3 h4
  exact ⟨k, o, g1, g2, g3, ⟨⟨⟨v, Γ', n', M', e1, hp _ _ _ _ e2, e3⟩, e4⟩, e5⟩⟩
/-! the archive at A -/
def pAs (Γ : zG) (P : Nat → Nat → Nat) (A : Nat) : Prop := Γ A = some (0, 0) ∧ Γ (A + 1) = some (1, 2080) ∧ P A 0 = A + 1 ∧ 0 < A
def pAr (M : zM) (A size : Nat) (arch : Nat → Nat) : Prop := zi M A 1 = nI size ∧ (∀ j, j < size → zi M (A + 1) j = nI (arch j)) ∧ size ≤ 2080 ∧ ∀ j, arch j < 256
theorem pAr.kept {M M' : zM} {A size : Nat} {arch : Nat → Nat} (h : pAr M A size arch) (h0 : M'.1 A = M.1 A) (h1 : M'.1 (A + 1) = M.1 (A + 1)) : pAr M' A size arch := by
  obtain ⟨q1, q2, q3⟩ := h
  exact ⟨by show M'.1 A 1 = _; rw [h0]; exact q1, fun j hj => by show M'.1 (A + 1) j = _; rw [h1]; exact q2 j hj, q3⟩
def mRlen (arch : Nat → Nat) (size b : Nat) : Nat := if b + 2 < size then arch (b + 2) else 0
def mBeg (arch : Nat → Nat) (size : Nat) : Nat → Nat
  | 0 => 0
  | i + 1 => mBeg arch size i + 5 + mRlen arch size (mBeg arch size i)
theorem mRlen_lt {arch : Nat → Nat} (h : ∀ j, arch j < 256) (size b : Nat) : mRlen arch size b < 256 := by
  unfold mRlen; split
  · exact h _
  · omega
theorem mBeg_up (arch : Nat → Nat) (size i j : Nat) (h : i ≤ j) : mBeg arch size i ≤ mBeg arch size j := by
  induction h with
  | refl => exact Nat.le_refl _
  | step _ ih => simp only [mBeg]; omega
set_option maxHeartbeats 4000000 in
set_option maxRecDepth 100000 in
theorem c_Ar_has (l : Launch) (E : zE) (Γ : zG) (n : Nat) (M : zM) (A size : Nat) (x : Int32) (ha : Γ A = some (0, 0)) (hc : zi M A 1 = nI size) (hsz : size ≤ 2080) : zCt l E Y_Ar_has 0 (0, 0) [.ref A, .int x] Γ n M (zPi Γ n (fun v M' => M' = M ∧ (v = nI 1 ∧ (∃ m : Nat, m < size ∧ x = nI m) ∨ v = nI 0 ∧ ¬ ∃ m : Nat, m < size ∧ x = nI m))) := by
  refine zCt.of [(0, .ref A), (1, .int x)] (by decide) (Nat.le_of_ble_eq_true rfl) rfl (fun f hfl hx hQ => ?_)
  refine g_iload_n (q := 1) hx d_Ar_has_0 rfl rfl ?_
  refine g_if_lt (q := 4) (t := 16) hx d_Ar_has_1 rfl rfl Iff.rfl (fun h1 => ?_) (fun h1 => ?_)
  · refine g_iconst (q := 17) (v := nI 0) hx d_Ar_has_16 rfl (by decide) ?_
    exact g_zret hx d_Ar_has_17 rfl (by decide) hQ ⟨Nat.le_refl _, Nat.le_refl _⟩ ⟨_, rfl, rfl, rfl, rfl, Or.inr ⟨rfl, fun ⟨m, hm, e⟩ => by rw [e] at h1; exact nI_pos (by omega) h1⟩⟩
  · obtain ⟨m, hm, rfl⟩ := nI_of h1
    refine g_iload_n (q := 5) hx d_Ar_has_4 rfl rfl ?_
    refine g_aload_n (q := 6) hx d_Ar_has_5 rfl rfl ?_
    refine g_geti (q := 9) hx d_Ar_has_6 rfl fl_Ar_15 (by assumption) (by assumption) ?_
    refine g_icmp_ge (q := 12) (t := 16) hx d_Ar_has_9 rfl rfl (nI_leI (by omega) (by omega)) (fun h9 => ?_) (fun h9 => ?_)
    · refine g_iconst (q := 17) (v := nI 0) hx d_Ar_has_16 rfl (by decide) ?_
      exact g_zret hx d_Ar_has_17 rfl (by decide) hQ ⟨Nat.le_refl _, Nat.le_refl _⟩ ⟨_, rfl, rfl, rfl, rfl, Or.inr ⟨rfl, fun ⟨j, hj, e⟩ => by have := (nI_eq hm (by omega)).mp e; omega⟩⟩
    · refine g_iconst (q := 13) (v := nI 1) hx d_Ar_has_12 rfl (by decide) ?_
      refine g_goto (q := 17) hx d_Ar_has_13 rfl ?_
      exact g_zret hx d_Ar_has_17 rfl (by decide) hQ ⟨Nat.le_refl _, Nat.le_refl _⟩ ⟨_, rfl, rfl, rfl, rfl, Or.inl ⟨rfl, m, by omega, rfl⟩⟩
set_option maxHeartbeats 4000000 in
set_option maxRecDepth 100000 in
theorem c_Rr_has (l : Launch) (E : zE) (Γ : zG) (n : Nat) (M : zM) (A size : Nat) (x : Int32) (ha : Γ A = some (0, 4)) (hc : zi M A 1 = nI size) (hsz : size ≤ 2080) : zCt l E Y_Rr_has 0 (0, 0) [.ref A, .int x] Γ n M (zPi Γ n (fun v M' => M' = M ∧ (v = nI 1 ∧ (∃ m : Nat, m < size ∧ x = nI m) ∨ v = nI 0 ∧ ¬ ∃ m : Nat, m < size ∧ x = nI m))) := by
  refine zCt.of [(0, .ref A), (1, .int x)] (by decide) (Nat.le_of_ble_eq_true rfl) rfl (fun f hfl hx hQ => ?_)
  refine g_iload_n (q := 1) hx d_Rr_has_0 rfl rfl ?_
  refine g_if_lt (q := 4) (t := 16) hx d_Rr_has_1 rfl rfl Iff.rfl (fun h1 => ?_) (fun h1 => ?_)
  · refine g_iconst (q := 17) (v := nI 0) hx d_Rr_has_16 rfl (by decide) ?_
    exact g_zret hx d_Rr_has_17 rfl (by decide) hQ ⟨Nat.le_refl _, Nat.le_refl _⟩ ⟨_, rfl, rfl, rfl, rfl, Or.inr ⟨rfl, fun ⟨m, hm, e⟩ => by rw [e] at h1; exact nI_pos (by omega) h1⟩⟩
  · obtain ⟨m, hm, rfl⟩ := nI_of h1
    refine g_iload_n (q := 5) hx d_Rr_has_4 rfl rfl ?_
    refine g_aload_n (q := 6) hx d_Rr_has_5 rfl rfl ?_
    refine g_geti (q := 9) hx d_Rr_has_6 rfl fl_Rr_7 (by assumption) (by assumption) ?_
    refine g_icmp_ge (q := 12) (t := 16) hx d_Rr_has_9 rfl rfl (nI_leI (by omega) (by omega)) (fun h9 => ?_) (fun h9 => ?_)
    · refine g_iconst (q := 17) (v := nI 0) hx d_Rr_has_16 rfl (by decide) ?_
      exact g_zret hx d_Rr_has_17 rfl (by decide) hQ ⟨Nat.le_refl _, Nat.le_refl _⟩ ⟨_, rfl, rfl, rfl, rfl, Or.inr ⟨rfl, fun ⟨j, hj, e⟩ => by have := (nI_eq hm (by omega)).mp e; omega⟩⟩
    · refine g_iconst (q := 13) (v := nI 1) hx d_Rr_has_12 rfl (by decide) ?_
      refine g_goto (q := 17) hx d_Rr_has_13 rfl ?_
      exact g_zret hx d_Rr_has_17 rfl (by decide) hQ ⟨Nat.le_refl _, Nat.le_refl _⟩ ⟨_, rfl, rfl, rfl, rfl, Or.inl ⟨rfl, m, by omega, rfl⟩⟩
theorem c_Ar_hasN (l : Launch) (E : zE) (Γ : zG) (n : Nat) (M : zM) (A size b : Nat) (ha : Γ A = some (0, 0)) (hc : zi M A 1 = nI size) (hsz : size ≤ 2080) (hb : b < 2 ^ 31) : zCt l E Y_Ar_has 0 (0, 0) [.ref A, .int (nI b)] Γ n M (zPi Γ n (fun v M' => M' = M ∧ (v = nI 1 ∧ b < size ∨ v = nI 0 ∧ ¬ b < size))) := by
  refine (c_Ar_has l E Γ n M A size (nI b) ha hc hsz).mono ?_
  rintro v Γ' n' M' ⟨r, h1, h2, h3, h4, h5⟩
  refine ⟨r, h1, h2, h3, h4, h5.imp (fun ⟨q1, m, q2, q3⟩ => ⟨q1, ?_⟩) (fun ⟨q1, q2⟩ => ⟨q1, fun q3 => q2 ⟨b, q3, rfl⟩⟩)⟩
  have := (nI_eq hb (by omega)).mp q3
  omega
theorem c_Rr_hasN (l : Launch) (E : zE) (Γ : zG) (n : Nat) (M : zM) (A size b : Nat) (ha : Γ A = some (0, 4)) (hc : zi M A 1 = nI size) (hsz : size ≤ 2080) (hb : b < 2 ^ 31) : zCt l E Y_Rr_has 0 (0, 0) [.ref A, .int (nI b)] Γ n M (zPi Γ n (fun v M' => M' = M ∧ (v = nI 1 ∧ b < size ∨ v = nI 0 ∧ ¬ b < size))) := by
  refine (c_Rr_has l E Γ n M A size (nI b) ha hc hsz).mono ?_
  rintro v Γ' n' M' ⟨r, h1, h2, h3, h4, h5⟩
  refine ⟨r, h1, h2, h3, h4, h5.imp (fun ⟨q1, m, q2, q3⟩ => ⟨q1, ?_⟩) (fun ⟨q1, q2⟩ => ⟨q1, fun q3 => q2 ⟨b, q3, rfl⟩⟩)⟩
  have := (nI_eq hb (by omega)).mp q3
  omega
set_option maxHeartbeats 4000000 in
set_option maxRecDepth 100000 in
theorem c_Ar_rowLength (l : Launch) (E : zE) (Γ : zG) (n : Nat) (M : zM) (A size : Nat) (arch : Nat → Nat) (b : Nat) (hs : pAs Γ M.2.2 A) (hd : pAr M A size arch) (hbb : b < 100000) : zCt l E Y_Ar_rowLength 1 (0, 0) [.ref A, .int (nI b)] Γ n M (zPi Γ n (fun v M' => v = nI (mRlen arch size b) ∧ M' = M)) := by
  refine zCt.of [(0, .ref A), (1, .int (nI b))] (by decide) (Nat.le_of_ble_eq_true rfl) rfl (fun f hfl hx hQ => ?_)
  obtain ⟨ha, ha1, p0, ha0⟩ := hs
  have p0 : zr M A 0 = A + 1 := p0
  obtain ⟨hc, hb, hsz, h256⟩ := hd
  refine g_aload_n (q := 1) hx d_Ar_rowLength_0 rfl rfl ?_
  refine g_iload_n (q := 2) hx d_Ar_rowLength_1 rfl rfl ?_
  refine g_iconst (q := 3) (v := nI 2) hx d_Ar_rowLength_2 rfl (by decide) ?_
  refine g_iadd (q := 4) hx d_Ar_rowLength_3 rfl (nI_add _ _) ?_
  refine g_ci (q := 7) (zrunV hx d_Ar_rowLength_4 lk_Ar_19 rfl rfl (by assumption) rfl rfl (Nat.le_of_ble_eq_true rfl) (by decide) (by omega) (by omega) ((c_Ar_hasN _ E Γ n _ A size (b + 2) ha hc hsz (by omega)))) rfl (fun r4 M4 p4 => ?_)
  obtain ⟨rfl, p4⟩ := p4
  rcases p4 with ⟨rfl, hz⟩ | ⟨rfl, hz⟩
  · refine g_if_eq (q := 10) (t := 21) hx d_Ar_rowLength_7 rfl rfl (zb_eq0 (by omega)) (fun h7 => ?_) (fun h7 => ?_)
    · exact absurd h7 (by omega)
    · refine g_aload_n (q := 11) hx d_Ar_rowLength_10 rfl rfl ?_
      refine g_geta (q := 14) hx d_Ar_rowLength_11 rfl fl_Ar_9 (by assumption) (by assumption) (by first | exact Nat.succ_ne_zero _ | omega) ?_
      refine g_iload_n (q := 15) hx d_Ar_rowLength_14 rfl rfl ?_
      refine g_iconst (q := 16) (v := nI 2) hx d_Ar_rowLength_15 rfl (by decide) ?_
      refine g_iadd (q := 17) hx d_Ar_rowLength_16 rfl (nI_add _ _) ?_
      refine g_iald (q := 18) hx d_Ar_rowLength_17 rfl (by assumption) rfl (by omega) (by decide) (hb _ hz) ?_
      refine g_goto (q := 22) hx d_Ar_rowLength_18 rfl ?_
      exact g_iret hx d_Ar_rowLength_22 rfl hQ ⟨Nat.le_refl _, Nat.le_refl _⟩ ⟨_, rfl, rfl, rfl, by unfold mRlen; first | rw [if_pos hz] | rw [if_neg hz], rfl⟩
  · refine g_if_eq (q := 10) (t := 21) hx d_Ar_rowLength_7 rfl rfl (zb_eq0 (by omega)) (fun h7 => ?_) (fun h7 => ?_)
    · refine g_iconst (q := 22) (v := nI 0) hx d_Ar_rowLength_21 rfl (by decide) ?_
      exact g_iret hx d_Ar_rowLength_22 rfl hQ ⟨Nat.le_refl _, Nat.le_refl _⟩ ⟨_, rfl, rfl, rfl, by unfold mRlen; first | rw [if_pos hz] | rw [if_neg hz], rfl⟩
    · exact absurd h7 (by omega)
set_option maxHeartbeats 4000000 in
set_option maxRecDepth 100000 in
theorem c_Ar_hasWholeBlock (l : Launch) (E : zE) (Γ : zG) (n : Nat) (M : zM) (A size : Nat) (arch : Nat → Nat) (b : Nat) (hs : pAs Γ M.2.2 A) (hd : pAr M A size arch) (hbb : b < 100000) : zCt l E Y_Ar_hasWholeBlock 2 (0, 0) [.ref A, .int (nI b)] Γ n M (zPi Γ n (fun v M' => M' = M ∧ (v = nI 1 ∧ (b < size ∧ b + 5 + mRlen arch size b ≤ size) ∨ v = nI 0 ∧ ¬ (b < size ∧ b + 5 + mRlen arch size b ≤ size)))) := by
  refine zCt.of [(0, .ref A), (1, .int (nI b))] (by decide) (Nat.le_of_ble_eq_true rfl) rfl (fun f hfl hx hQ => ?_)
  have hs0 := hs
  have hd0 := hd
  obtain ⟨ha, ha1, p0, ha0⟩ := hs
  have p0 : zr M A 0 = A + 1 := p0
  obtain ⟨hc, hb, hsz, h256⟩ := hd
  have hrl := mRlen_lt h256 size b
  refine g_aload_n (q := 1) hx d_Ar_hasWholeBlock_0 rfl rfl ?_
  refine g_iload_n (q := 2) hx d_Ar_hasWholeBlock_1 rfl rfl ?_
  refine g_ci (q := 5) (zrunV hx d_Ar_hasWholeBlock_2 lk_Ar_19 rfl rfl (by assumption) rfl rfl (Nat.le_of_ble_eq_true rfl) (by decide) (by omega) (by omega) ((c_Ar_hasN _ E Γ n _ A size b ha hc hsz (by omega)))) rfl (fun r2 M2 p2 => ?_)
  obtain ⟨rfl, p2⟩ := p2
  rcases p2 with ⟨rfl, hz⟩ | ⟨rfl, hz⟩
  · refine g_if_eq (q := 8) (t := 28) hx d_Ar_hasWholeBlock_5 rfl rfl (zb_eq0 (by omega)) (fun h5 => ?_) (fun h5 => ?_)
    · exact absurd h5 (by omega)
    · refine g_iload_n (q := 9) hx d_Ar_hasWholeBlock_8 rfl rfl ?_
      refine g_iconst (q := 10) (v := nI 5) hx d_Ar_hasWholeBlock_9 rfl (by decide) ?_
      refine g_iadd (q := 11) hx d_Ar_hasWholeBlock_10 rfl (nI_add _ _) ?_
      refine g_aload_n (q := 12) hx d_Ar_hasWholeBlock_11 rfl rfl ?_
      refine g_iload_n (q := 13) hx d_Ar_hasWholeBlock_12 rfl rfl ?_
      refine g_ci (q := 16) (zrunV hx d_Ar_hasWholeBlock_13 lk_Ar_23 rfl rfl (by assumption) rfl rfl (Nat.le_of_ble_eq_true rfl) (by decide) (by omega) (by omega) ((c_Ar_rowLength _ E Γ n _ A size arch b hs0 hd0 (by omega)))) rfl (fun r13 M13 p13 => ?_)
      obtain ⟨rfl, rfl⟩ := p13
      refine g_iadd (q := 17) hx d_Ar_hasWholeBlock_16 rfl (nI_add _ _) ?_
      refine g_aload_n (q := 18) hx d_Ar_hasWholeBlock_17 rfl rfl ?_
      refine g_geti (q := 21) hx d_Ar_hasWholeBlock_18 rfl fl_Ar_15 (by assumption) (by assumption) ?_
      refine g_icmp_gt (q := 24) (t := 28) hx d_Ar_hasWholeBlock_21 rfl rfl (nI_ltI (by omega) (by omega)) (fun h21 => ?_) (fun h21 => ?_)
      · refine g_iconst (q := 29) (v := nI 0) hx d_Ar_hasWholeBlock_28 rfl (by decide) ?_
        exact g_zret hx d_Ar_hasWholeBlock_29 rfl (by decide) hQ ⟨Nat.le_refl _, Nat.le_refl _⟩ ⟨_, rfl, rfl, rfl, rfl, by first | exact Or.inl ⟨rfl, hz, by omega⟩ | exact Or.inr ⟨rfl, fun q => by omega⟩⟩
      · refine g_iconst (q := 25) (v := nI 1) hx d_Ar_hasWholeBlock_24 rfl (by decide) ?_
        refine g_goto (q := 29) hx d_Ar_hasWholeBlock_25 rfl ?_
        exact g_zret hx d_Ar_hasWholeBlock_29 rfl (by decide) hQ ⟨Nat.le_refl _, Nat.le_refl _⟩ ⟨_, rfl, rfl, rfl, rfl, by first | exact Or.inl ⟨rfl, hz, by omega⟩ | exact Or.inr ⟨rfl, fun q => by omega⟩⟩
  · refine g_if_eq (q := 8) (t := 28) hx d_Ar_hasWholeBlock_5 rfl rfl (zb_eq0 (by omega)) (fun h5 => ?_) (fun h5 => ?_)
    · refine g_iconst (q := 29) (v := nI 0) hx d_Ar_hasWholeBlock_28 rfl (by decide) ?_
      exact g_zret hx d_Ar_hasWholeBlock_29 rfl (by decide) hQ ⟨Nat.le_refl _, Nat.le_refl _⟩ ⟨_, rfl, rfl, rfl, rfl, by first | exact Or.inl ⟨rfl, hz, by omega⟩ | exact Or.inr ⟨rfl, fun q => by omega⟩⟩
    · exact absurd h5 (by omega)
set_option maxHeartbeats 4000000 in
set_option maxRecDepth 100000 in
theorem c_Ar_countBegins (l : Launch) (E : zE) (Γ : zG) (n : Nat) (M : zM) (A size : Nat) (arch : Nat → Nat) (hs : pAs Γ M.2.2 A) (hd : pAr M A size arch) : zCt l E Y_Ar_countBegins 2 (0, 0) [.ref A] Γ n M (zPi Γ n (fun v M' => M' = M ∧ ∃ i : Nat, v = nI i ∧ size ≤ mBeg arch size i ∧ ∀ j, j < i → mBeg arch size j < size)) := by
  refine zCt.of [(0, .ref A)] (by decide) (Nat.le_of_ble_eq_true rfl) rfl (fun f hfl hx hQ => ?_)
  have hs0 := hs
  have hd0 := hd
  obtain ⟨ha, ha1, p0, ha0⟩ := hs
  have p0 : zr M A 0 = A + 1 := p0
  obtain ⟨hc, hb, hsz, h256⟩ := hd
  have loop : ∀ i : Nat, (∀ j, j < i → mBeg arch size j < size) → mBeg arch size i ≤ 3000 → zGo f E Γ n (0, 0) M 4 [(2, .int (nI (mBeg arch size i))), (1, .int (nI i)), (0, .ref A)] [] := by
    refine z_loop (fun i => size - mBeg arch size i) _ ?_
    intro i ih hi hb3
    have hrl := mRlen_lt h256 size (mBeg arch size i)
    refine g_iload_n (q := 5) hx d_Ar_countBegins_4 rfl rfl ?_
    refine g_aload_n (q := 6) hx d_Ar_countBegins_5 rfl rfl ?_
    refine g_geti (q := 9) hx d_Ar_countBegins_6 rfl fl_Ar_15 (by assumption) (by assumption) ?_
    refine g_icmp_ge (q := 12) (t := 28) hx d_Ar_countBegins_9 rfl rfl (nI_leI (by omega) (by omega)) (fun h9 => ?_) (fun h9 => ?_)
    · refine g_iload_n (q := 29) hx d_Ar_countBegins_28 rfl rfl ?_
      exact g_iret hx d_Ar_countBegins_29 rfl hQ ⟨Nat.le_refl _, Nat.le_refl _⟩ ⟨_, rfl, rfl, rfl, rfl, i, rfl, by omega, hi⟩
    · refine g_iinc (q := 15) (lc' := [(1, _), (2, _), (0, _)]) hx d_Ar_countBegins_12 rfl rfl (z_inc _) (by decide) rfl ?_
      refine g_iload_n (q := 16) hx d_Ar_countBegins_15 rfl rfl ?_
      refine g_iconst (q := 17) (v := nI 5) hx d_Ar_countBegins_16 rfl (by decide) ?_
      refine g_aload_n (q := 18) hx d_Ar_countBegins_17 rfl rfl ?_
      refine g_iload_n (q := 19) hx d_Ar_countBegins_18 rfl rfl ?_
      refine g_ci (q := 22) (zrunV hx d_Ar_countBegins_19 lk_Ar_23 rfl rfl (by assumption) rfl rfl (Nat.le_of_ble_eq_true rfl) (by decide) (by omega) (by omega) ((c_Ar_rowLength _ E Γ n _ A size arch _ hs0 hd0 (by omega)))) rfl (fun r19 M19 p19 => ?_)
      obtain ⟨rfl, rfl⟩ := p19
      refine g_iadd (q := 23) hx d_Ar_countBegins_22 rfl (nI_add _ _) ?_
      refine g_iadd (q := 24) hx d_Ar_countBegins_23 rfl (nI_add _ _) ?_
      refine g_istore_n (q := 25) (lc' := [(2, _), (1, _), (0, _)]) hx d_Ar_countBegins_24 rfl (by decide) rfl ?_
      refine g_goto (q := 4) hx d_Ar_countBegins_25 rfl ?_
      have e9 : mBeg arch size i + (5 + mRlen arch size (mBeg arch size i)) = mBeg arch size (i + 1) := by simp only [mBeg]; omega
      rw [e9]
      exact ih (i + 1) (by show size - mBeg arch size (i + 1) < size - mBeg arch size i; omega) (fun j hj => by
        by_cases c : j = i
        · subst c; omega
        · exact hi j (by omega)) (by omega)
  refine g_iconst (q := 1) (v := nI 0) hx d_Ar_countBegins_0 rfl (by decide) ?_
  refine g_istore_n (q := 2) (lc' := [(1, _), (0, _)]) hx d_Ar_countBegins_1 rfl (by decide) rfl ?_
  refine g_iconst (q := 3) (v := nI 0) hx d_Ar_countBegins_2 rfl (by decide) ?_
  refine g_istore_n (q := 4) (lc' := [(2, _), (1, _), (0, _)]) hx d_Ar_countBegins_3 rfl (by decide) rfl ?_
  exact loop 0 (fun j hj => absurd hj (Nat.not_lt_zero _)) (by show 0 ≤ 3000; omega)
set_option maxHeartbeats 4000000 in
set_option maxRecDepth 100000 in
theorem c_Ar_beginOf (l : Launch) (E : zE) (Γ : zG) (n : Nat) (M : zM) (A size : Nat) (arch : Nat → Nat) (x : Int32) (hs : pAs Γ M.2.2 A) (hd : pAr M A size arch) : zCt l E Y_Ar_beginOf 2 (0, 0) [.ref A, .int x] Γ n M (zPi Γ n (fun v M' => M' = M ∧ ((∃ i : Nat, x = nI i ∧ mBeg arch size i < size ∧ v = nI (mBeg arch size i)) ∨ v = -1 ∧ ¬ ∃ i : Nat, i < 2 ^ 31 ∧ x = nI i ∧ mBeg arch size i < size))) := by
  refine zCt.of [(0, .ref A), (1, .int x)] (by decide) (Nat.le_of_ble_eq_true rfl) rfl (fun f hfl hx hQ => ?_)
  have hs0 := hs
  have hd0 := hd
  obtain ⟨ha, ha1, p0, ha0⟩ := hs
  have p0 : zr M A 0 = A + 1 := p0
  obtain ⟨hc, hb, hsz, h256⟩ := hd
  by_cases hx0 : x < 0
  · skip
    refine g_iconst (q := 1) (v := nI 0) hx d_Ar_beginOf_0 rfl (by decide) ?_
    refine g_istore_n (q := 2) (lc' := [(2, _), (0, _), (1, _)]) hx d_Ar_beginOf_1 rfl (by decide) rfl ?_
    refine g_iconst (q := 3) (v := nI 0) hx d_Ar_beginOf_2 rfl (by decide) ?_
    refine g_istore_n (q := 4) (lc' := [(3, _), (2, _), (0, _), (1, _)]) hx d_Ar_beginOf_3 rfl (by decide) rfl ?_
    refine g_iload_n (q := 5) hx d_Ar_beginOf_4 rfl rfl ?_
    refine g_iload_n (q := 6) hx d_Ar_beginOf_5 rfl rfl ?_
    refine g_icmp_ge (q := 9) (t := 33) hx d_Ar_beginOf_6 rfl rfl Iff.rfl (fun h6 => ?_) (fun h6 => ?_)
    · refine g_iload_n (q := 34) hx d_Ar_beginOf_33 rfl rfl ?_
      refine g_if_lt (q := 37) (t := 49) hx d_Ar_beginOf_34 rfl rfl Iff.rfl (fun h34 => ?_) (fun h34 => ?_)
      · refine g_iconst (q := 50) (v := (-1)) hx d_Ar_beginOf_49 rfl (by decide) ?_
        exact g_iret hx d_Ar_beginOf_50 rfl hQ ⟨Nat.le_refl _, Nat.le_refl _⟩ ⟨_, rfl, rfl, rfl, rfl, Or.inr ⟨rfl, fun ⟨j, hj, e, hlt⟩ => by rw [e] at hx0; exact nI_pos hj hx0⟩⟩
      · exact absurd hx0 h34
    · exact absurd (Int32.le_of_lt (Int32.lt_of_lt_of_le hx0 (nI_pos' (by omega)))) h6
  · obtain ⟨m, hm, rfl⟩ := nI_of hx0
    have loop : ∀ i : Nat, i ≤ m → mBeg arch size i ≤ 3000 → zGo f E Γ n (0, 0) M 4 [(3, .int (nI i)), (2, .int (nI (mBeg arch size i))), (0, .ref A), (1, .int (nI m))] [] := by
      refine z_loop (fun i => m - i) _ ?_
      intro i ih hi hb3
      have hrl := mRlen_lt h256 size (mBeg arch size i)
      refine g_iload_n (q := 5) hx d_Ar_beginOf_4 rfl rfl ?_
      refine g_iload_n (q := 6) hx d_Ar_beginOf_5 rfl rfl ?_
      refine g_icmp_ge (q := 9) (t := 33) hx d_Ar_beginOf_6 rfl rfl (nI_leI (by omega) (by omega)) (fun h6 => ?_) (fun h6 => ?_)
      · refine g_iload_n (q := 34) hx d_Ar_beginOf_33 rfl rfl ?_
        refine g_if_lt (q := 37) (t := 49) hx d_Ar_beginOf_34 rfl rfl (zb_lt0 (by omega)) (fun h34 => ?_) (fun h34 => ?_)
        · exact h34.elim
        · refine g_iload_n (q := 38) hx d_Ar_beginOf_37 rfl rfl ?_
          refine g_aload_n (q := 39) hx d_Ar_beginOf_38 rfl rfl ?_
          refine g_geti (q := 42) hx d_Ar_beginOf_39 rfl fl_Ar_15 (by assumption) (by assumption) ?_
          refine g_icmp_ge (q := 45) (t := 49) hx d_Ar_beginOf_42 rfl rfl (nI_leI (by omega) (by omega)) (fun h42 => ?_) (fun h42 => ?_)
          · refine g_iconst (q := 50) (v := (-1)) hx d_Ar_beginOf_49 rfl (by decide) ?_
            exact g_iret hx d_Ar_beginOf_50 rfl hQ ⟨Nat.le_refl _, Nat.le_refl _⟩ ⟨_, rfl, rfl, rfl, rfl, by first | (obtain rfl : i = m := (by omega); exact Or.inl ⟨i, rfl, by omega, rfl⟩) | exact Or.inr ⟨rfl, fun ⟨j, hj, e, hlt⟩ => by have e1 := (nI_eq (by omega) hj).mp e; subst e1; have := mBeg_up arch size i _ (by omega : i ≤ m); omega⟩⟩
          · refine g_iload_n (q := 46) hx d_Ar_beginOf_45 rfl rfl ?_
            refine g_goto (q := 50) hx d_Ar_beginOf_46 rfl ?_
            exact g_iret hx d_Ar_beginOf_50 rfl hQ ⟨Nat.le_refl _, Nat.le_refl _⟩ ⟨_, rfl, rfl, rfl, rfl, by first | (obtain rfl : i = m := (by omega); exact Or.inl ⟨i, rfl, by omega, rfl⟩) | exact Or.inr ⟨rfl, fun ⟨j, hj, e, hlt⟩ => by have e1 := (nI_eq (by omega) hj).mp e; subst e1; have := mBeg_up arch size i _ (by omega : i ≤ m); omega⟩⟩
      · refine g_iload_n (q := 10) hx d_Ar_beginOf_9 rfl rfl ?_
        refine g_aload_n (q := 11) hx d_Ar_beginOf_10 rfl rfl ?_
        refine g_geti (q := 14) hx d_Ar_beginOf_11 rfl fl_Ar_15 (by assumption) (by assumption) ?_
        refine g_icmp_ge (q := 17) (t := 33) hx d_Ar_beginOf_14 rfl rfl (nI_leI (by omega) (by omega)) (fun h14 => ?_) (fun h14 => ?_)
        · refine g_iload_n (q := 34) hx d_Ar_beginOf_33 rfl rfl ?_
          refine g_if_lt (q := 37) (t := 49) hx d_Ar_beginOf_34 rfl rfl (zb_lt0 (by omega)) (fun h34 => ?_) (fun h34 => ?_)
          · exact h34.elim
          · refine g_iload_n (q := 38) hx d_Ar_beginOf_37 rfl rfl ?_
            refine g_aload_n (q := 39) hx d_Ar_beginOf_38 rfl rfl ?_
            refine g_geti (q := 42) hx d_Ar_beginOf_39 rfl fl_Ar_15 (by assumption) (by assumption) ?_
            refine g_icmp_ge (q := 45) (t := 49) hx d_Ar_beginOf_42 rfl rfl (nI_leI (by omega) (by omega)) (fun h42 => ?_) (fun h42 => ?_)
            · refine g_iconst (q := 50) (v := (-1)) hx d_Ar_beginOf_49 rfl (by decide) ?_
              exact g_iret hx d_Ar_beginOf_50 rfl hQ ⟨Nat.le_refl _, Nat.le_refl _⟩ ⟨_, rfl, rfl, rfl, rfl, by first | (obtain rfl : i = m := (by omega); exact Or.inl ⟨i, rfl, by omega, rfl⟩) | exact Or.inr ⟨rfl, fun ⟨j, hj, e, hlt⟩ => by have e1 := (nI_eq (by omega) hj).mp e; subst e1; have := mBeg_up arch size i _ (by omega : i ≤ m); omega⟩⟩
            · refine g_iload_n (q := 46) hx d_Ar_beginOf_45 rfl rfl ?_
              refine g_goto (q := 50) hx d_Ar_beginOf_46 rfl ?_
              exact g_iret hx d_Ar_beginOf_50 rfl hQ ⟨Nat.le_refl _, Nat.le_refl _⟩ ⟨_, rfl, rfl, rfl, rfl, by first | (obtain rfl : i = m := (by omega); exact Or.inl ⟨i, rfl, by omega, rfl⟩) | exact Or.inr ⟨rfl, fun ⟨j, hj, e, hlt⟩ => by have e1 := (nI_eq (by omega) hj).mp e; subst e1; have := mBeg_up arch size i _ (by omega : i ≤ m); omega⟩⟩
        · refine g_iload_n (q := 18) hx d_Ar_beginOf_17 rfl rfl ?_
          refine g_iconst (q := 19) (v := nI 5) hx d_Ar_beginOf_18 rfl (by decide) ?_
          refine g_aload_n (q := 20) hx d_Ar_beginOf_19 rfl rfl ?_
          refine g_iload_n (q := 21) hx d_Ar_beginOf_20 rfl rfl ?_
          refine g_ci (q := 24) (zrunV hx d_Ar_beginOf_21 lk_Ar_23 rfl rfl (by assumption) rfl rfl (Nat.le_of_ble_eq_true rfl) (by decide) (by omega) (by omega) ((c_Ar_rowLength _ E Γ n _ A size arch _ hs0 hd0 (by omega)))) rfl (fun r21 M21 p21 => ?_)
          obtain ⟨rfl, rfl⟩ := p21
          refine g_iadd (q := 25) hx d_Ar_beginOf_24 rfl (nI_add _ _) ?_
          refine g_iadd (q := 26) hx d_Ar_beginOf_25 rfl (nI_add _ _) ?_
          refine g_istore_n (q := 27) (lc' := [(2, _), (3, _), (0, _), (1, _)]) hx d_Ar_beginOf_26 rfl (by decide) rfl ?_
          refine g_iinc (q := 30) (lc' := [(3, _), (2, _), (0, _), (1, _)]) hx d_Ar_beginOf_27 rfl rfl (z_inc _) (by decide) rfl ?_
          refine g_goto (q := 4) hx d_Ar_beginOf_30 rfl ?_
          have e9 : mBeg arch size i + (5 + mRlen arch size (mBeg arch size i)) = mBeg arch size (i + 1) := by simp only [mBeg]; omega
          rw [e9]
          exact ih (i + 1) (by show m - (i + 1) < m - i; omega) (by omega) (by omega)
    refine g_iconst (q := 1) (v := nI 0) hx d_Ar_beginOf_0 rfl (by decide) ?_
    refine g_istore_n (q := 2) (lc' := [(2, _), (0, _), (1, _)]) hx d_Ar_beginOf_1 rfl (by decide) rfl ?_
    refine g_iconst (q := 3) (v := nI 0) hx d_Ar_beginOf_2 rfl (by decide) ?_
    refine g_istore_n (q := 4) (lc' := [(3, _), (2, _), (0, _), (1, _)]) hx d_Ar_beginOf_3 rfl (by decide) rfl ?_
    exact loop 0 (Nat.zero_le _) (by show 0 ≤ 3000; omega)
