set_option maxHeartbeats 4000000 in
set_option maxRecDepth 100000 in
theorem c_Ar_append (l : Launch) (E : zE) (Γ : zG) (n : Nat) (M : zM) (A size B L NB : Nat) (arch blk : Nat → Nat) (hs : pAs Γ M.2.2 A) (hd : pAr M A size arch) (hgB : Γ B = some (1, NB)) (hNB : NB < 2 ^ 31) (hL : L ≤ NB) (hsL : size + L ≤ 2080) (hbk : ∀ j, j < L → zi M B j = nI (blk j)) (hb256 : ∀ j, blk j < 256) (hBA : B ≠ A) (hBA1 : B ≠ A + 1) :
    zCt l E Y_Ar_append 0 (0, 0) [.ref A, .ref B, .int (nI L)] Γ n M (zPv Γ n (fun M' => zOn (fun b => b = A ∨ b = A + 1) M M' ∧ pAr M' A (size + L) (fun j => if j < size then arch j else blk (j - size)))) := by
  refine zCt.of [(0, .ref A), (1, .ref B), (2, .int (nI L))] (by decide) (Nat.le_of_ble_eq_true rfl) rfl (fun f hfl hx hQ => ?_)
  obtain ⟨ha, ha1, p0, ha0⟩ := hs
  have p0 : zr M A 0 = A + 1 := p0
  obtain ⟨hc, hb, hsz, h256⟩ := hd
  have loop : ∀ (i : Nat) (M1 : zM), i ≤ L → (zOn (fun b => b = A ∨ b = A + 1) M M1 ∧ zi M1 A 1 = nI (size + i) ∧ (∀ j, j < size → zi M1 (A + 1) j = nI (arch j)) ∧ ∀ j, j < i → zi M1 (A + 1) (size + j) = nI (blk j)) → zGo f E Γ n (0, 0) M1 2 [(3, .int (nI i)), (0, .ref A), (1, .ref B), (2, .int (nI L))] [] := by
    refine z_lp (fun i => L - i) _ ?_
    intro i M1 ih hi hI
    have p01 : zr M1 A 0 = A + 1 := by
      show M1.2.2 A 0 = A + 1
      rw [hI.1.r]; exact p0
    have hc1 := hI.2.1
    have hB1 : ∀ j, j < L → zi M1 B j = nI (blk j) := fun j hj => by rw [hI.1.i (by omega)]; exact hbk j hj
    refine g_iload_n (q := 3) hx d_Ar_append_2 rfl rfl ?_
    refine g_iload_n (q := 4) hx d_Ar_append_3 rfl rfl ?_
    refine g_icmp_ge (q := 7) (t := 47) hx d_Ar_append_4 rfl rfl (nI_leI (by omega) (by omega)) (fun h4 => ?_) (fun h4 => ?_)
    · exact g_vret hx d_Ar_append_47 rfl hQ ⟨Nat.le_refl _, Nat.le_refl _⟩ ⟨rfl, rfl, rfl, by
            first
            | (obtain rfl : i = L := (by omega)
               exact ⟨hI.1, hI.2.1, fun j hj => by
                 show zi M1 (A + 1) j = nI (if j < size then arch j else blk (j - size))
                 by_cases c : j < size
                 · rw [if_pos c]; exact hI.2.2.1 j c
                 · rw [if_neg c]
                   have h9 := hI.2.2.2 (j - size) (by omega)
                   rw [show size + (j - size) = j by omega] at h9
                   exact h9, hsL, fun j => by
                   show (if j < size then arch j else blk (j - size)) < 256
                   split
                   · exact h256 _
                   · exact hb256 _⟩)
            | (exfalso; omega)⟩
    · refine g_aload_n (q := 8) hx d_Ar_append_7 rfl rfl ?_
      refine g_geti (q := 11) hx d_Ar_append_8 rfl fl_Ar_15 (by assumption) (by assumption) ?_
      refine g_aload_n (q := 12) hx d_Ar_append_11 rfl rfl ?_
      refine g_geta (q := 15) hx d_Ar_append_12 rfl fl_Ar_9 (by assumption) (by assumption) (by omega) ?_
      refine g_alen (q := 16) (t := 0) hx d_Ar_append_15 rfl (by assumption) ?_
      refine g_icmp_ge (q := 19) (t := 47) hx d_Ar_append_16 rfl rfl (nI_leI (by omega) (by omega)) (fun h16 => ?_) (fun h16 => ?_)
      · exact g_vret hx d_Ar_append_47 rfl hQ ⟨Nat.le_refl _, Nat.le_refl _⟩ ⟨rfl, rfl, rfl, by
              first
              | (obtain rfl : i = L := (by omega)
                 exact ⟨hI.1, hI.2.1, fun j hj => by
                   show zi M1 (A + 1) j = nI (if j < size then arch j else blk (j - size))
                   by_cases c : j < size
                   · rw [if_pos c]; exact hI.2.2.1 j c
                   · rw [if_neg c]
                     have h9 := hI.2.2.2 (j - size) (by omega)
                     rw [show size + (j - size) = j by omega] at h9
                     exact h9, hsL, fun j => by
                     show (if j < size then arch j else blk (j - size)) < 256
                     split
                     · exact h256 _
                     · exact hb256 _⟩)
              | (exfalso; omega)⟩
      · refine g_aload_n (q := 20) hx d_Ar_append_19 rfl rfl ?_
        refine g_geta (q := 23) hx d_Ar_append_20 rfl fl_Ar_9 (by assumption) (by assumption) (by omega) ?_
        refine g_aload_n (q := 24) hx d_Ar_append_23 rfl rfl ?_
        refine g_geti (q := 27) hx d_Ar_append_24 rfl fl_Ar_15 (by assumption) (by assumption) ?_
        refine g_aload_n (q := 28) hx d_Ar_append_27 rfl rfl ?_
        refine g_iload_n (q := 29) hx d_Ar_append_28 rfl rfl ?_
        refine g_iald (q := 30) hx d_Ar_append_29 rfl (by assumption) rfl (by omega) hNB (hB1 _ (by omega)) ?_
        refine g_iast (q := 31) hx d_Ar_append_30 rfl (by assumption) rfl (by omega) (by decide) ?_
        refine g_aload_n (q := 32) hx d_Ar_append_31 rfl rfl ?_
        refine g_dup (q := 33) hx d_Ar_append_32 rfl rfl ?_
        refine g_geti (q := 36) hx d_Ar_append_33 rfl fl_Ar_15 (by assumption) ((zi_a (by omega)).trans hc1) ?_
        refine g_iconst (q := 37) (v := nI 1) hx d_Ar_append_36 rfl (by decide) ?_
        refine g_iadd (q := 38) hx d_Ar_append_37 rfl (nI_add _ _) ?_
        refine g_puti (q := 41) hx d_Ar_append_38 rfl fl_Ar_15 nf_0_1 (by assumption) ?_
        refine g_iinc (q := 44) (lc' := [(3, _), (0, _), (1, _), (2, _)]) hx d_Ar_append_41 rfl rfl (z_inc _) (by decide) rfl ?_
        refine g_goto (q := 2) hx d_Ar_append_44 rfl ?_
        refine ih (i + 1) _ (by show L - (i + 1) < L - i; omega) (by omega) ⟨(hI.1.si (Or.inr rfl)).si (Or.inl rfl), ?_, fun j hj => ?_, fun j hj => ?_⟩
        · rw [zi_s]; rfl
        · rw [zi_a (by omega), zi_k (by omega)]; exact hI.2.2.1 j hj
        · rw [zi_a (by omega)]
          by_cases e : j = i
          · subst e; rw [zi_s]
          · rw [zi_k (by omega)]; exact hI.2.2.2 j (by omega)
  refine g_iconst (q := 1) (v := nI 0) hx d_Ar_append_0 rfl (by decide) ?_
  refine g_istore_n (q := 2) (lc' := [(3, _), (0, _), (1, _), (2, _)]) hx d_Ar_append_1 rfl (by decide) rfl ?_
  exact loop 0 M (Nat.zero_le _) ⟨zOn.rf, by show zi M A 1 = nI (size + 0); exact hc, hb, fun j hj => absurd hj (Nat.not_lt_zero _)⟩
set_option maxHeartbeats 4000000 in
set_option maxRecDepth 100000 in
theorem c_Ar_holds (l : Launch) (E : zE) (Γ : zG) (n : Nat) (M : zM) (A size B L NB b : Nat) (arch blk : Nat → Nat) (hs : pAs Γ M.2.2 A) (hd : pAr M A size arch) (hgB : Γ B = some (1, NB)) (hNB : NB < 2 ^ 31) (hL : L ≤ NB) (hbb : b < 100000) (hw : b + 5 + mRlen arch size b ≤ size) (hbk : ∀ j, j < L → zi M B j = nI (blk j)) (hb256 : ∀ j, blk j < 256) :
    zCt l E Y_Ar_holds 2 (0, 0) [.ref A, .int (nI b), .ref B, .int (nI L)] Γ n M (zPi Γ n (fun v M' => M' = M ∧ (v = nI 1 ∧ (5 + mRlen arch size b = L ∧ ∀ j, j < L → arch (b + j) = blk j) ∨ v = nI 0 ∧ ¬ (5 + mRlen arch size b = L ∧ ∀ j, j < L → arch (b + j) = blk j)))) := by
  refine zCt.of [(0, .ref A), (1, .int (nI b)), (2, .ref B), (3, .int (nI L))] (by decide) (Nat.le_of_ble_eq_true rfl) rfl (fun f hfl hx hQ => ?_)
  have hs0 := hs
  have hd0 := hd
  obtain ⟨ha, ha1, p0, ha0⟩ := hs
  have p0 : zr M A 0 = A + 1 := p0
  obtain ⟨hc, hb, hsz, h256⟩ := hd
  have hrl := mRlen_lt h256 size b
  refine g_iconst (q := 1) (v := nI 5) hx d_Ar_holds_0 rfl (by decide) ?_
  refine g_aload_n (q := 2) hx d_Ar_holds_1 rfl rfl ?_
  refine g_iload_n (q := 3) hx d_Ar_holds_2 rfl rfl ?_
  refine g_ci (q := 6) (zrunV hx d_Ar_holds_3 lk_Ar_23 rfl rfl (by assumption) rfl rfl (Nat.le_of_ble_eq_true rfl) (by decide) (by omega) (by omega) (c_Ar_rowLength _ E Γ n _ A size arch b hs0 hd0 (by omega))) rfl (fun r3 M3 p3 => ?_)
  obtain ⟨rfl, rfl⟩ := p3
  refine g_iadd (q := 7) hx d_Ar_holds_6 rfl (nI_add _ _) ?_
  refine g_iload_n (q := 8) hx d_Ar_holds_7 rfl rfl ?_
  refine g_icmp_eq (q := 11) (t := 13) hx d_Ar_holds_8 rfl rfl (nI_eq (by omega) (by omega)) (fun h8 => ?_) (fun h8 => ?_)
  · have hLe : 5 + mRlen arch size b = L := h8
    have loop : ∀ i : Nat, i ≤ L → (∀ j, j < i → arch (b + j) = blk j) → zGo f E Γ n (0, 0) M3 16 [(4, .int (nI i)), (0, .ref A), (1, .int (nI b)), (2, .ref B), (3, .int (nI L))] [] := by
      refine z_loop (fun i => L - i) _ ?_
      intro i ih hle hi
      refine g_iload (q := 18) hx d_Ar_holds_16 rfl rfl ?_
      refine g_iload_n (q := 19) hx d_Ar_holds_18 rfl rfl ?_
      refine g_icmp_ge (q := 22) (t := 46) hx d_Ar_holds_19 rfl rfl (nI_leI (by omega) (by omega)) (fun h19 => ?_) (fun h19 => ?_)
      · refine g_iconst (q := 47) (v := nI 1) hx d_Ar_holds_46 rfl (by decide) ?_
        exact g_zret hx d_Ar_holds_47 rfl (by decide) hQ ⟨Nat.le_refl _, Nat.le_refl _⟩ ⟨_, rfl, rfl, rfl, rfl, Or.inl ⟨rfl, by omega, fun j hj => hi j (by omega)⟩⟩
      · refine g_aload_n (q := 23) hx d_Ar_holds_22 rfl rfl ?_
        refine g_geta (q := 26) hx d_Ar_holds_23 rfl fl_Ar_9 (by assumption) (by assumption) (by omega) ?_
        refine g_iload_n (q := 27) hx d_Ar_holds_26 rfl rfl ?_
        refine g_iload (q := 29) hx d_Ar_holds_27 rfl rfl ?_
        refine g_iadd (q := 30) hx d_Ar_holds_29 rfl (nI_add _ _) ?_
        refine g_iald (q := 31) hx d_Ar_holds_30 rfl (by assumption) rfl (by omega) (by decide) (hb _ (by omega)) ?_
        refine g_aload_n (q := 32) hx d_Ar_holds_31 rfl rfl ?_
        refine g_iload (q := 34) hx d_Ar_holds_32 rfl rfl ?_
        refine g_iald (q := 35) hx d_Ar_holds_34 rfl (by assumption) rfl (by omega) hNB (hbk _ (by omega)) ?_
        refine g_icmp_eq (q := 38) (t := 40) hx d_Ar_holds_35 rfl rfl (nI_eq (by have := h256 (b + i); omega) (by have := hb256 i; omega)) (fun h35 => ?_) (fun h35 => ?_)
        · refine g_iinc (q := 43) (lc' := [(4, _), (0, _), (1, _), (2, _), (3, _)]) hx d_Ar_holds_40 rfl rfl (z_inc _) (by decide) rfl ?_
          refine g_goto (q := 16) hx d_Ar_holds_43 rfl ?_
          exact ih (i + 1) (by show L - (i + 1) < L - i; omega) (by omega) (fun j hj => by
            by_cases c : j = i
            · subst c; exact h35
            · exact hi j (by omega))
        · refine g_iconst (q := 39) (v := nI 0) hx d_Ar_holds_38 rfl (by decide) ?_
          exact g_zret hx d_Ar_holds_39 rfl (by decide) hQ ⟨Nat.le_refl _, Nat.le_refl _⟩ ⟨_, rfl, rfl, rfl, rfl, Or.inr ⟨rfl, fun q => h35 (q.2 i (by omega))⟩⟩
    refine g_iconst (q := 14) (v := nI 0) hx d_Ar_holds_13 rfl (by decide) ?_
    refine g_istore (q := 16) (lc' := [(4, _), (0, _), (1, _), (2, _), (3, _)]) hx d_Ar_holds_14 rfl (by decide) rfl ?_
    exact loop 0 (Nat.zero_le _) (fun j hj => absurd hj (Nat.not_lt_zero _))
  · refine g_iconst (q := 12) (v := nI 0) hx d_Ar_holds_11 rfl (by decide) ?_
    exact g_zret hx d_Ar_holds_12 rfl (by decide) hQ ⟨Nat.le_refl _, Nat.le_refl _⟩ ⟨_, rfl, rfl, rfl, rfl, Or.inr ⟨rfl, fun q => by omega⟩⟩
def mOv (f : Nat → mRd) (p : Nat) : Nat → Nat
  | 0 => 0
  | i + 1 => mOv f p i + (if (f i).1 ≤ p ∧ p < (f i).1 + mPs (f i).2 then 1 else 0)
theorem mOv_le (f : Nat → mRd) (p : Nat) : ∀ i, mOv f p i ≤ i
  | 0 => Nat.le_refl _
  | i + 1 => by have := mOv_le f p i; simp only [mOv]; split <;> omega
set_option maxHeartbeats 4000000 in
set_option maxRecDepth 100000 in
/-- countOver(p) -/
theorem c_Rr_countOver (l : Launch) (E : zE) (Γ : zG) (n : Nat) (M : zM) (R it N c p : Nat) (ad : Nat → Nat) (rs : Nat → mRd) (hg : Γ R = some (0, 4)) (hri : zr M R 0 = it) (hit0 : 0 < it) (hgi : Γ it = some (3, N)) (hN : N < 2 ^ 31) (hc : zi M R 1 = nI c) (hcN : c ≤ N) (hp : p < 100000)
    (hit : ∀ i, i < c → zr M it i = ad i ∧ 0 < ad i ∧ Γ (ad i) = some (0, 3) ∧ zi M (ad i) 3 = nI (rs i).1 ∧ zi M (ad i) 6 = nI (mPs (rs i).2) ∧ (rs i).1 + mPs (rs i).2 < 100000) :
    zCt l E Y_Rr_countOver 1 (0, 0) [.ref R, .int (nI p)] Γ n M (zPi Γ n (fun v M' => v = nI (mOv rs p c) ∧ M' = M)) := by
  refine zCt.of [(0, .ref R), (1, .int (nI p))] (by decide) (Nat.le_of_ble_eq_true rfl) rfl (fun f hfl hx hQ => ?_)
  have loop : ∀ i : Nat, i ≤ c → zGo f E Γ n (0, 0) M 4 [(3, .int (nI i)), (2, .int (nI (mOv rs p i))), (0, .ref R), (1, .int (nI p))] [] := by
    refine z_loop (fun i => c - i) _ ?_
    intro i ih hi
    have hbd : i < c → (rs i).1 + mPs (rs i).2 < 100000 := fun h => (hit i h).2.2.2.2.2
    refine g_iload_n (q := 5) hx d_Rr_countOver_4 rfl rfl ?_
    refine g_aload_n (q := 6) hx d_Rr_countOver_5 rfl rfl ?_
    refine g_geti (q := 9) hx d_Rr_countOver_6 rfl fl_Rr_7 (by assumption) (by assumption) ?_
    refine g_icmp_ge (q := 12) (t := 47) hx d_Rr_countOver_9 rfl rfl (nI_leI (by omega) (by omega)) (fun h9 => ?_) (fun h9 => ?_)
    · refine g_iload_n (q := 48) hx d_Rr_countOver_47 rfl rfl ?_
      exact g_iret hx d_Rr_countOver_48 rfl hQ ⟨Nat.le_refl _, Nat.le_refl _⟩ ⟨_, rfl, rfl, rfl, by obtain rfl : i = c := (by omega); rfl, rfl⟩
    · refine g_aload_n (q := 13) hx d_Rr_countOver_12 rfl rfl ?_
      refine g_geta (q := 16) hx d_Rr_countOver_13 rfl fl_Rr_15 (by assumption) (by assumption) (by omega) ?_
      refine g_iload_n (q := 17) hx d_Rr_countOver_16 rfl rfl ?_
      refine g_aald (q := 18) hx d_Rr_countOver_17 rfl hgi rfl (by omega) hN (hit i (by omega)).1 (by have := (hit i (by omega)).2.1; omega) ?_
      refine g_geti (q := 21) hx d_Rr_countOver_18 rfl fl_Rr_20 (hit i (by omega)).2.2.1 (hit i (by omega)).2.2.2.1 ?_
      refine g_iload_n (q := 22) hx d_Rr_countOver_21 rfl rfl ?_
      refine g_icmp_gt (q := 25) (t := 41) hx d_Rr_countOver_22 rfl rfl (nI_ltI (by omega) (by omega)) (fun h22 => ?_) (fun h22 => ?_)
      · refine g_iinc (q := 44) (lc' := [(3, _), (2, _), (0, _), (1, _)]) hx d_Rr_countOver_41 rfl rfl (z_inc _) (by decide) rfl ?_
        refine g_goto (q := 4) hx d_Rr_countOver_44 rfl ?_
        have e9 : mOv rs p (i + 1) = mOv rs p i := by
          simp only [mOv]
          first
          | rw [if_pos ⟨by omega, by omega⟩]
          | rw [if_neg (fun q => by omega), Nat.add_zero]
        have K := ih (i + 1) (by show c - (i + 1) < c - i; omega) (by omega)
        rw [e9] at K
        exact K
      · refine g_iload_n (q := 26) hx d_Rr_countOver_25 rfl rfl ?_
        refine g_aload_n (q := 27) hx d_Rr_countOver_26 rfl rfl ?_
        refine g_geta (q := 30) hx d_Rr_countOver_27 rfl fl_Rr_15 (by assumption) (by assumption) (by omega) ?_
        refine g_iload_n (q := 31) hx d_Rr_countOver_30 rfl rfl ?_
        refine g_aald (q := 32) hx d_Rr_countOver_31 rfl hgi rfl (by omega) hN (hit i (by omega)).1 (by have := (hit i (by omega)).2.1; omega) ?_
        refine g_ci (q := 35) (zrunV hx d_Rr_countOver_32 lk_Rr_23 rfl rfl (hit i (by omega)).2.2.1 rfl rfl (Nat.le_of_ble_eq_true rfl) (by decide) (by omega) (by omega) (c_Rd_placeN _ E Γ n _ (ad i) _ _ (hit i (by omega)).2.2.1 (hit i (by omega)).2.2.2.1 (hit i (by omega)).2.2.2.2.1)) rfl (fun r32 M32 p32 => ?_)
        obtain ⟨rfl, rfl⟩ := p32
        refine g_icmp_ge (q := 38) (t := 41) hx d_Rr_countOver_35 rfl rfl (nI_leI (by omega) (by omega)) (fun h35 => ?_) (fun h35 => ?_)
        · refine g_iinc (q := 44) (lc' := [(3, _), (2, _), (0, _), (1, _)]) hx d_Rr_countOver_41 rfl rfl (z_inc _) (by decide) rfl ?_
          refine g_goto (q := 4) hx d_Rr_countOver_44 rfl ?_
          have e9 : mOv rs p (i + 1) = mOv rs p i := by
            simp only [mOv]
            first
            | rw [if_pos ⟨by omega, by omega⟩]
            | rw [if_neg (fun q => by omega), Nat.add_zero]
          have K := ih (i + 1) (by show c - (i + 1) < c - i; omega) (by omega)
          rw [e9] at K
          exact K
        · refine g_iinc (q := 41) (lc' := [(2, _), (3, _), (0, _), (1, _)]) hx d_Rr_countOver_38 rfl rfl (z_inc _) (by decide) rfl ?_
          refine g_iinc (q := 44) (lc' := [(3, _), (2, _), (0, _), (1, _)]) hx d_Rr_countOver_41 rfl rfl (z_inc _) (by decide) rfl ?_
          refine g_goto (q := 4) hx d_Rr_countOver_44 rfl ?_
          have e9 : mOv rs p (i + 1) = mOv rs p i + 1 := by
            simp only [mOv]
            first
            | rw [if_pos ⟨by omega, by omega⟩]
            | rw [if_neg (fun q => by omega), Nat.add_zero]
          have K := ih (i + 1) (by show c - (i + 1) < c - i; omega) (by omega)
          rw [e9] at K
          exact K
  refine g_iconst (q := 1) (v := nI 0) hx d_Rr_countOver_0 rfl (by decide) ?_
  refine g_istore_n (q := 2) (lc' := [(2, _), (0, _), (1, _)]) hx d_Rr_countOver_1 rfl (by decide) rfl ?_
  refine g_iconst (q := 3) (v := nI 0) hx d_Rr_countOver_2 rfl (by decide) ?_
  refine g_istore_n (q := 4) (lc' := [(3, _), (2, _), (0, _), (1, _)]) hx d_Rr_countOver_3 rfl (by decide) rfl ?_
  exact loop 0 (Nat.zero_le _)
