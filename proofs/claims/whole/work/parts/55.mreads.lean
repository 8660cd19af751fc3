/-! the reference's reads: opened, barred, made longer, copied -/
def bSA : Nat → Bool := fun i => i == 2 || i == 3 || i == 4 || i == 5 || i == 6 || i == 7
/-- of the reads, the one at r alone has changed -/
def kS (r m : Nat) (M M' : zM) : Prop := (∀ c j, 2 ≤ c → c ≤ 5 → j ≠ r → zi M' (m + c) j = zi M (m + c) j) ∧ ∀ c j, 6 ≤ c → c ≤ 7 → (j < 12 * r ∨ 12 * r + 12 ≤ j) → zi M' (m + c) j = zi M (m + c) j
theorem kS.rf {r m : Nat} {M : zM} : kS r m M M := ⟨fun _ _ _ _ _ => rfl, fun _ _ _ _ _ => rfl⟩
theorem kS.tr {r m : Nat} {M M' M'' : zM} (h : kS r m M M') (h' : kS r m M' M'') : kS r m M M'' :=
  ⟨fun c j h1 h2 h3 => (h'.1 c j h1 h2 h3).trans (h.1 c j h1 h2 h3), fun c j h1 h2 h3 => (h'.2 c j h1 h2 h3).trans (h.2 c j h1 h2 h3)⟩
theorem kS.of {A I L : Nat → Bool} {r m : Nat} {M M' : zM} (h : kF A I L m M M') (h2 : A 2 = false) (h3 : A 3 = false) (h4 : A 4 = false) (h5 : A 5 = false) (h6 : A 6 = false) (h7 : A 7 = false) : kS r m M M' := by
  have ha : ∀ c, 2 ≤ c → c ≤ 7 → A c = false := by
    intro c h1 h9
    obtain rfl | rfl | rfl | rfl | rfl | rfl : c = 2 ∨ c = 3 ∨ c = 4 ∨ c = 5 ∨ c = 6 ∨ c = 7 := by omega
    all_goals assumption
  exact ⟨fun c j h1 h9 _ => h.a c (by omega) (ha c h1 (by omega)) j, fun c j h1 h9 _ => h.a c (by omega) (ha c (by omega) h9) j⟩
theorem kS.s {r m : Nat} {M M' : zM} (h : kS r m M M') {c : Nat} {v : Int32} (h5 : c ≤ 5) : kS r m M (zsi M' (m + c) r v) := by
  refine ⟨fun d j h1 h2 h3 => ?_, fun d j h1 h2 h3 => (zi_a (by omega)).trans (h.2 d j h1 h2 h3)⟩
  by_cases e : d = c
  · subst e; exact (zi_k h3).trans (h.1 d j h1 h2 h3)
  · exact (zi_a (by omega)).trans (h.1 d j h1 h2 h3)
theorem kS.t {r m : Nat} {M M' : zM} (h : kS r m M M') {c k : Nat} {v : Int32} (h6 : 6 ≤ c) (hk : 12 * r ≤ k ∧ k < 12 * r + 12) : kS r m M (zsi M' (m + c) k v) := by
  refine ⟨fun d j h1 h2 h3 => (zi_a (by omega)).trans (h.1 d j h1 h2 h3), fun d j h1 h2 h3 => ?_⟩
  by_cases e : d = c
  · subst e; exact (zi_k (by omega)).trans (h.2 d j h1 h2 h3)
  · exact (zi_a (by omega)).trans (h.2 d j h1 h2 h3)
theorem qS.ot {r m r' : Nat} {M M' : zM} (h : kS r m M M') (hr : r' ≠ r) {rd : mRd} (h12 : rd.2.length ≤ 12) (q : qS M m r' rd) : qS M' m r' rd := by
  obtain ⟨q1, q2, q3, q4, q5⟩ := q
  exact ⟨(h.1 2 r' (by omega) (by omega) hr).trans q1, (h.1 3 r' (by omega) (by omega) hr).trans q2, (h.1 4 r' (by omega) (by omega) hr).trans q3, (h.1 5 r' (by omega) (by omega) hr).trans q4,
    fun j hj => ⟨(h.2 6 _ (by omega) (by omega) (by omega)).trans (q5 j hj).1, (h.2 7 _ (by omega) (by omega) (by omega)).trans (q5 j hj).2⟩⟩
set_option maxHeartbeats 4000000 in
set_option maxRecDepth 100000 in
theorem c_Mo_open (l : Launch) (E : zE) (Γ : zG) (n : Nat) (M : zM) (m : Nat) (r p : Nat) (hq : qX Γ M.2.2 m) (hr : r < 31) : zCt l E Y_Mo_open 0 (0, 0) [.ref m, .int (nI r), .int (nI p)] Γ n M (zPv Γ n (fun M' => kF bSA bN bN m M M' ∧ kS r m M M' ∧ qS M' m r (p, []))) := by
  refine zCt.of [(0, .ref m), (1, .int (nI r)), (2, .int (nI p))] (by decide) (Nat.le_of_ble_eq_true rfl) rfl (fun f hfl hx hQ => ?_)
  obtain ⟨P, hP⟩ : ∃ P, M.2.2 = P := ⟨_, rfl⟩
  rw [hP] at hq
  have hm0 := hq.m0
  refine g_aload_n (q := 1) hx d_Mo_open_0 rfl rfl ?_
  refine g_geta (q := 4) hx d_Mo_open_1 rfl fl_Mo_13 hq.g0 (hq.p2 hP) (by first | exact Nat.succ_ne_zero _ | omega) ?_
  refine g_iload_n (q := 5) hx d_Mo_open_4 rfl rfl ?_
  refine g_iload_n (q := 6) hx d_Mo_open_5 rfl rfl ?_
  refine g_iast (q := 7) hx d_Mo_open_6 rfl hq.g2 rfl (by omega) (by decide) ?_
  refine g_aload_n (q := 8) hx d_Mo_open_7 rfl rfl ?_
  refine g_geta (q := 11) hx d_Mo_open_8 rfl fl_Mo_16 hq.g0 (hq.p3 hP) (by first | exact Nat.succ_ne_zero _ | omega) ?_
  refine g_iload_n (q := 12) hx d_Mo_open_11 rfl rfl ?_
  refine g_iconst (q := 13) (v := nI 0) hx d_Mo_open_12 rfl (by decide) ?_
  refine g_iast (q := 14) hx d_Mo_open_13 rfl hq.g3 rfl (by omega) (by decide) ?_
  refine g_aload_n (q := 15) hx d_Mo_open_14 rfl rfl ?_
  refine g_geta (q := 18) hx d_Mo_open_15 rfl fl_Mo_19 hq.g0 (hq.p4 hP) (by first | exact Nat.succ_ne_zero _ | omega) ?_
  refine g_iload_n (q := 19) hx d_Mo_open_18 rfl rfl ?_
  refine g_iconst (q := 20) (v := nI 0) hx d_Mo_open_19 rfl (by decide) ?_
  refine g_iast (q := 21) hx d_Mo_open_20 rfl hq.g4 rfl (by omega) (by decide) ?_
  refine g_aload_n (q := 22) hx d_Mo_open_21 rfl rfl ?_
  refine g_geta (q := 25) hx d_Mo_open_22 rfl fl_Mo_22 hq.g0 (hq.p5 hP) (by first | exact Nat.succ_ne_zero _ | omega) ?_
  refine g_iload_n (q := 26) hx d_Mo_open_25 rfl rfl ?_
  refine g_iconst (q := 27) (v := nI 0) hx d_Mo_open_26 rfl (by decide) ?_
  refine g_iast (q := 28) hx d_Mo_open_27 rfl hq.g5 rfl (by omega) (by decide) ?_
  exact g_vret hx d_Mo_open_28 rfl hQ ⟨Nat.le_refl _, Nat.le_refl _⟩ ⟨rfl, rfl, rfl, (((kF.rf.sa rfl (by decide) (by decide)).sa rfl (by decide) (by decide)).sa rfl (by decide) (by decide)).sa rfl (by decide) (by decide), (((kS.rf.s (by decide)).s (by decide)).s (by decide)).s (by decide), (zi_a (by omega)).trans ((zi_a (by omega)).trans ((zi_a (by omega)).trans (zi_s _ _ _ _))), (zi_a (by omega)).trans ((zi_a (by omega)).trans (zi_s _ _ _ _)), (zi_a (by omega)).trans (zi_s _ _ _ _), zi_s _ _ _ _, fun j hj => absurd hj (Nat.not_lt_zero _)⟩
theorem i32_lt_trans {a b c : Int32} (h : a < b) (h' : b < c) : a < c := by
  rw [Int32.lt_iff_toInt_lt] at *; omega
theorem i32_lt_le {a b c : Int32} (h : a < b) (h' : b ≤ c) : a < c := by
  rw [Int32.lt_iff_toInt_lt] at *; rw [Int32.le_iff_toInt_le] at h'; omega
theorem i32_not_le {a b : Int32} (h : a < b) : ¬ b ≤ a := by
  rw [Int32.lt_iff_toInt_lt] at h; rw [Int32.le_iff_toInt_le]; omega
theorem nI_inj4 {k j : Nat} (h : nI k = nI j) (hj : j < 4) (hk : k < 4) : k = j := (nI_eq (by omega) (by omega)).mp h
theorem mF_not {ref : Nat → Nat} {len at_ k u k9 u9 : Nat} (hk : k < 4 ∧ u < 2 ^ 31) (w1 : u9 < 2 ^ 31) (w2 : nI k = nI k9) (w3 : k9 < 4) (w4 : nI u = nI u9) (w5 : mFit ref len at_ (k9, u9)) (h : ¬ mFit ref len at_ (k, u)) : False := by
  obtain rfl := nI_inj4 w2 w3 hk.1
  obtain rfl := (nI_eq hk.2 w1).mp w4
  exact h w5
theorem mF_big {ref : Nat → Nat} {len at_ k k9 u9 N : Nat} (h : nI N ≤ nI u9) (w1 : u9 < 2 ^ 31) (hN : N < 2 ^ 31 ∧ ((k = 0 ∨ k = 3) ∧ len - at_ < N ∨ (k = 1 ∨ k = 2) ∧ 4 ≤ N)) (w2 : k = k9) (w5 : mFit ref len at_ (k9, u9)) : False := by
  subst w2
  have h1 := (nI_leI hN.1 w1).mp h
  unfold mFit at w5
  dsimp only at w5
  omega
set_option maxHeartbeats 4000000 in
set_option maxRecDepth 100000 in
theorem c_Mo_barred (l : Launch) (E : zE) (Γ : zG) (n : Nat) (M : zM) (m : Nat) (r len : Nat) (ref : Nat → Nat) (rd : mRd) (x y : Int32) (hq : qX Γ M.2.2 m) (hR : qR M m len ref) (hS : qS M m r rd) (hr : r < 31) (hp : rd.1 + mPs rd.2 ≤ len) (h12 : rd.2.length ≤ 12) (h20 : mBc rd.2 ≤ 20) (hks : mKs rd.2) :
    zCt l E Y_Mo_barred 0 (0, 0) [.ref m, .int (nI r), .int x, .int y] Γ n M (zPi Γ n (fun v M' => M' = M ∧ ((v = nI 1 ∧ ¬ zFit ref len (rd.1 + mPs rd.2) x y) ∨ ∃ k u : Nat, x = nI k ∧ k < 4 ∧ y = nI u ∧ u < 2 ^ 31 ∧ mFit ref len (rd.1 + mPs rd.2) (k, u) ∧ (v = nI 2 ∧ ¬ mRoom rd.2 (k, u) ∨ v = nI 0 ∧ mRoom rd.2 (k, u))))) := by
  refine zCt.of [(0, .ref m), (1, .int (nI r)), (2, .int x), (3, .int y)] (by decide) (Nat.le_of_ble_eq_true rfl) rfl (fun f hfl hx hQ => ?_)
  obtain ⟨P, hP⟩ : ∃ P, M.2.2 = P := ⟨_, rfl⟩
  rw [hP] at hq
  have hm0 := hq.m0
  obtain ⟨q1, q2, q3, q4, q5⟩ := hS
  have hl160 := hR.2.2.1
  have hr4 := hR.2.2.2 (rd.1 + mPs rd.2)
  have q5b : 0 < rd.2.length → zi M (m + 6) (12 * r + (rd.2.length - 1)) = nI (mK rd.2 (rd.2.length - 1)) := fun h => (q5 _ (by omega)).1
  have hkl : 0 < rd.2.length → mK rd.2 (rd.2.length - 1) < 4 := fun h => hks _ (by omega)
  rcases z4 (x := x) with hxn | hxb | ⟨k, hk, rfl⟩
  · refine g_aload_n (q := 1) hx d_Mo_barred_0 rfl rfl ?_
    refine g_geti (q := 4) hx d_Mo_barred_1 rfl fl_Mo_57 hq.g0 hR.1 ?_
    refine g_aload_n (q := 5) hx d_Mo_barred_4 rfl rfl ?_
    refine g_geta (q := 8) hx d_Mo_barred_5 rfl fl_Mo_13 hq.g0 (hq.p2 hP) (by first | exact Nat.succ_ne_zero _ | omega) ?_
    refine g_iload_n (q := 9) hx d_Mo_barred_8 rfl rfl ?_
    refine g_iald (q := 10) hx d_Mo_barred_9 rfl hq.g2 rfl (by omega) (by decide) q1 ?_
    refine g_isub (q := 11) hx d_Mo_barred_10 rfl (pk_sub (by omega)) ?_
    refine g_aload_n (q := 12) hx d_Mo_barred_11 rfl rfl ?_
    refine g_geta (q := 15) hx d_Mo_barred_12 rfl fl_Mo_22 hq.g0 (hq.p5 hP) (by first | exact Nat.succ_ne_zero _ | omega) ?_
    refine g_iload_n (q := 16) hx d_Mo_barred_15 rfl rfl ?_
    refine g_iald (q := 17) hx d_Mo_barred_16 rfl hq.g5 rfl (by omega) (by decide) q4 ?_
    refine g_isub (q := 18) hx d_Mo_barred_17 rfl (pk_sub (by omega)) ?_
    refine g_istore (q := 20) (lc' := [(4, _), (0, _), (1, _), (2, _), (3, _)]) hx d_Mo_barred_18 rfl (by decide) rfl ?_
    refine g_iload_n (q := 21) hx d_Mo_barred_20 rfl rfl ?_
    refine g_if_eq (q := 24) (t := 29) hx d_Mo_barred_21 rfl rfl (z_x0 x) (fun h21 => ?_) (fun h21 => ?_)
    · exact absurd h21 (z4n (Or.inl hxn) (by omega))
    · refine g_iload_n (q := 25) hx d_Mo_barred_24 rfl rfl ?_
      refine g_iconst (q := 26) (v := nI 3) hx d_Mo_barred_25 rfl (by decide) ?_
      refine g_icmp_ne (q := 29) (t := 33) hx d_Mo_barred_26 rfl rfl Iff.rfl (fun h26 => ?_) (fun h26 => ?_)
      · refine g_iconst (q := 34) (v := nI 0) hx d_Mo_barred_33 rfl (by decide) ?_
        refine g_istore (q := 36) (lc' := [(5, _), (4, _), (0, _), (1, _), (2, _), (3, _)]) hx d_Mo_barred_34 rfl (by decide) rfl ?_
        refine g_iload_n (q := 37) hx d_Mo_barred_36 rfl rfl ?_
        refine g_if_lt (q := 40) (t := 75) hx d_Mo_barred_37 rfl rfl Iff.rfl (fun h37 => ?_) (fun h37 => ?_)
        · refine g_iconst (q := 76) (v := nI 1) hx d_Mo_barred_75 rfl (by decide) ?_
          exact g_iret hx d_Mo_barred_76 rfl hQ ⟨Nat.le_refl _, Nat.le_refl _⟩ ⟨_, rfl, rfl, rfl, rfl, Or.inl ⟨rfl, fun ⟨k9, u9, w1, w2, w3, w4, w5⟩ => z4n (Or.inl hxn) w3 w2⟩⟩
        · exact absurd (Int32.lt_iff_toInt_lt.mpr (by simpa using hxn)) h37
      · exact absurd h26 (fun q => q (z4n (Or.inl hxn) (by omega)))
  · refine g_aload_n (q := 1) hx d_Mo_barred_0 rfl rfl ?_
    refine g_geti (q := 4) hx d_Mo_barred_1 rfl fl_Mo_57 hq.g0 hR.1 ?_
    refine g_aload_n (q := 5) hx d_Mo_barred_4 rfl rfl ?_
    refine g_geta (q := 8) hx d_Mo_barred_5 rfl fl_Mo_13 hq.g0 (hq.p2 hP) (by first | exact Nat.succ_ne_zero _ | omega) ?_
    refine g_iload_n (q := 9) hx d_Mo_barred_8 rfl rfl ?_
    refine g_iald (q := 10) hx d_Mo_barred_9 rfl hq.g2 rfl (by omega) (by decide) q1 ?_
    refine g_isub (q := 11) hx d_Mo_barred_10 rfl (pk_sub (by omega)) ?_
    refine g_aload_n (q := 12) hx d_Mo_barred_11 rfl rfl ?_
    refine g_geta (q := 15) hx d_Mo_barred_12 rfl fl_Mo_22 hq.g0 (hq.p5 hP) (by first | exact Nat.succ_ne_zero _ | omega) ?_
    refine g_iload_n (q := 16) hx d_Mo_barred_15 rfl rfl ?_
    refine g_iald (q := 17) hx d_Mo_barred_16 rfl hq.g5 rfl (by omega) (by decide) q4 ?_
    refine g_isub (q := 18) hx d_Mo_barred_17 rfl (pk_sub (by omega)) ?_
    refine g_istore (q := 20) (lc' := [(4, _), (0, _), (1, _), (2, _), (3, _)]) hx d_Mo_barred_18 rfl (by decide) rfl ?_
    refine g_iload_n (q := 21) hx d_Mo_barred_20 rfl rfl ?_
    refine g_if_eq (q := 24) (t := 29) hx d_Mo_barred_21 rfl rfl (z_x0 x) (fun h21 => ?_) (fun h21 => ?_)
    · exact absurd h21 (z4n (Or.inr hxb) (by omega))
    · refine g_iload_n (q := 25) hx d_Mo_barred_24 rfl rfl ?_
      refine g_iconst (q := 26) (v := nI 3) hx d_Mo_barred_25 rfl (by decide) ?_
      refine g_icmp_ne (q := 29) (t := 33) hx d_Mo_barred_26 rfl rfl Iff.rfl (fun h26 => ?_) (fun h26 => ?_)
      · refine g_iconst (q := 34) (v := nI 0) hx d_Mo_barred_33 rfl (by decide) ?_
        refine g_istore (q := 36) (lc' := [(5, _), (4, _), (0, _), (1, _), (2, _), (3, _)]) hx d_Mo_barred_34 rfl (by decide) rfl ?_
        refine g_iload_n (q := 37) hx d_Mo_barred_36 rfl rfl ?_
        refine g_if_lt (q := 40) (t := 75) hx d_Mo_barred_37 rfl rfl Iff.rfl (fun h37 => ?_) (fun h37 => ?_)
        · exact (by have h9 := Int32.lt_iff_toInt_lt.mp h37; simp at h9; omega : False).elim
        · refine g_iload_n (q := 41) hx d_Mo_barred_40 rfl rfl ?_
          refine g_iconst (q := 42) (v := nI 3) hx d_Mo_barred_41 rfl (by decide) ?_
          refine g_icmp_gt (q := 45) (t := 75) hx d_Mo_barred_42 rfl rfl Iff.rfl (fun h42 => ?_) (fun h42 => ?_)
          · refine g_iconst (q := 76) (v := nI 1) hx d_Mo_barred_75 rfl (by decide) ?_
            exact g_iret hx d_Mo_barred_76 rfl hQ ⟨Nat.le_refl _, Nat.le_refl _⟩ ⟨_, rfl, rfl, rfl, rfl, Or.inl ⟨rfl, fun ⟨k9, u9, w1, w2, w3, w4, w5⟩ => z4n (Or.inr hxb) w3 w2⟩⟩
          · exact absurd (Int32.lt_iff_toInt_lt.mpr (by rw [nI_toInt (by omega)]; exact hxb)) h42
      · exact absurd h26 (fun q => q (z4n (Or.inr hxb) (by omega)))
  · obtain rfl | rfl | rfl | rfl : k = 0 ∨ k = 1 ∨ k = 2 ∨ k = 3 := by omega
    · rcases pk_ix y (n := len - rd.1 - mPs rd.2 + 1) (by omega) with hyn | hyb | ⟨u, hu, rfl⟩
      · refine g_aload_n (q := 1) hx d_Mo_barred_0 rfl rfl ?_
        refine g_geti (q := 4) hx d_Mo_barred_1 rfl fl_Mo_57 hq.g0 hR.1 ?_
        refine g_aload_n (q := 5) hx d_Mo_barred_4 rfl rfl ?_
        refine g_geta (q := 8) hx d_Mo_barred_5 rfl fl_Mo_13 hq.g0 (hq.p2 hP) (by first | exact Nat.succ_ne_zero _ | omega) ?_
        refine g_iload_n (q := 9) hx d_Mo_barred_8 rfl rfl ?_
        refine g_iald (q := 10) hx d_Mo_barred_9 rfl hq.g2 rfl (by omega) (by decide) q1 ?_
        refine g_isub (q := 11) hx d_Mo_barred_10 rfl (pk_sub (by omega)) ?_
        refine g_aload_n (q := 12) hx d_Mo_barred_11 rfl rfl ?_
        refine g_geta (q := 15) hx d_Mo_barred_12 rfl fl_Mo_22 hq.g0 (hq.p5 hP) (by first | exact Nat.succ_ne_zero _ | omega) ?_
        refine g_iload_n (q := 16) hx d_Mo_barred_15 rfl rfl ?_
        refine g_iald (q := 17) hx d_Mo_barred_16 rfl hq.g5 rfl (by omega) (by decide) q4 ?_
        refine g_isub (q := 18) hx d_Mo_barred_17 rfl (pk_sub (by omega)) ?_
        refine g_istore (q := 20) (lc' := [(4, _), (0, _), (1, _), (2, _), (3, _)]) hx d_Mo_barred_18 rfl (by decide) rfl ?_
        refine g_iload_n (q := 21) hx d_Mo_barred_20 rfl rfl ?_
        refine g_if_eq (q := 24) (t := 29) hx d_Mo_barred_21 rfl rfl (zb_eq0 (by omega)) (fun h21 => ?_) (fun h21 => ?_)
        · refine g_iconst (q := 30) (v := nI 1) hx d_Mo_barred_29 rfl (by decide) ?_
          refine g_goto (q := 34) hx d_Mo_barred_30 rfl ?_
          refine g_istore (q := 36) (lc' := [(5, _), (4, _), (0, _), (1, _), (2, _), (3, _)]) hx d_Mo_barred_34 rfl (by decide) rfl ?_
          refine g_iload_n (q := 37) hx d_Mo_barred_36 rfl rfl ?_
          refine g_if_lt (q := 40) (t := 75) hx d_Mo_barred_37 rfl rfl (zb_lt0 (by omega)) (fun h37 => ?_) (fun h37 => ?_)
          · exact h37.elim
          · refine g_iload_n (q := 41) hx d_Mo_barred_40 rfl rfl ?_
            refine g_iconst (q := 42) (v := nI 3) hx d_Mo_barred_41 rfl (by decide) ?_
            refine g_icmp_gt (q := 45) (t := 75) hx d_Mo_barred_42 rfl rfl (nI_ltI (by omega) (by omega)) (fun h42 => ?_) (fun h42 => ?_)
            · exact absurd h42 (by omega)
            · refine g_iload (q := 47) hx d_Mo_barred_45 rfl rfl ?_
              refine g_if_eq (q := 50) (t := 61) hx d_Mo_barred_47 rfl rfl (zb_eq0 (by omega)) (fun h47 => ?_) (fun h47 => ?_)
              · exact absurd h47 (by omega)
              · refine g_iload_n (q := 51) hx d_Mo_barred_50 rfl rfl ?_
                refine g_iconst (q := 52) (v := nI 1) hx d_Mo_barred_51 rfl (by decide) ?_
                refine g_icmp_lt (q := 55) (t := 75) hx d_Mo_barred_52 rfl rfl Iff.rfl (fun h52 => ?_) (fun h52 => ?_)
                · refine g_iconst (q := 76) (v := nI 1) hx d_Mo_barred_75 rfl (by decide) ?_
                  exact g_iret hx d_Mo_barred_76 rfl hQ ⟨Nat.le_refl _, Nat.le_refl _⟩ ⟨_, rfl, rfl, rfl, rfl, Or.inl ⟨rfl, fun ⟨k9, u9, w1, w2, w3, w4, w5⟩ => (nI_pos w1 (by rw [← w4]; exact hyn)).elim⟩⟩
                · exact absurd (i32_lt_trans hyn (by decide)) h52
        · exact absurd h21 (by omega)
      · refine g_aload_n (q := 1) hx d_Mo_barred_0 rfl rfl ?_
        refine g_geti (q := 4) hx d_Mo_barred_1 rfl fl_Mo_57 hq.g0 hR.1 ?_
        refine g_aload_n (q := 5) hx d_Mo_barred_4 rfl rfl ?_
        refine g_geta (q := 8) hx d_Mo_barred_5 rfl fl_Mo_13 hq.g0 (hq.p2 hP) (by first | exact Nat.succ_ne_zero _ | omega) ?_
        refine g_iload_n (q := 9) hx d_Mo_barred_8 rfl rfl ?_
        refine g_iald (q := 10) hx d_Mo_barred_9 rfl hq.g2 rfl (by omega) (by decide) q1 ?_
        refine g_isub (q := 11) hx d_Mo_barred_10 rfl (pk_sub (by omega)) ?_
        refine g_aload_n (q := 12) hx d_Mo_barred_11 rfl rfl ?_
        refine g_geta (q := 15) hx d_Mo_barred_12 rfl fl_Mo_22 hq.g0 (hq.p5 hP) (by first | exact Nat.succ_ne_zero _ | omega) ?_
        refine g_iload_n (q := 16) hx d_Mo_barred_15 rfl rfl ?_
        refine g_iald (q := 17) hx d_Mo_barred_16 rfl hq.g5 rfl (by omega) (by decide) q4 ?_
        refine g_isub (q := 18) hx d_Mo_barred_17 rfl (pk_sub (by omega)) ?_
        refine g_istore (q := 20) (lc' := [(4, _), (0, _), (1, _), (2, _), (3, _)]) hx d_Mo_barred_18 rfl (by decide) rfl ?_
        refine g_iload_n (q := 21) hx d_Mo_barred_20 rfl rfl ?_
        refine g_if_eq (q := 24) (t := 29) hx d_Mo_barred_21 rfl rfl (zb_eq0 (by omega)) (fun h21 => ?_) (fun h21 => ?_)
        · refine g_iconst (q := 30) (v := nI 1) hx d_Mo_barred_29 rfl (by decide) ?_
          refine g_goto (q := 34) hx d_Mo_barred_30 rfl ?_
          refine g_istore (q := 36) (lc' := [(5, _), (4, _), (0, _), (1, _), (2, _), (3, _)]) hx d_Mo_barred_34 rfl (by decide) rfl ?_
          refine g_iload_n (q := 37) hx d_Mo_barred_36 rfl rfl ?_
          refine g_if_lt (q := 40) (t := 75) hx d_Mo_barred_37 rfl rfl (zb_lt0 (by omega)) (fun h37 => ?_) (fun h37 => ?_)
          · exact h37.elim
          · refine g_iload_n (q := 41) hx d_Mo_barred_40 rfl rfl ?_
            refine g_iconst (q := 42) (v := nI 3) hx d_Mo_barred_41 rfl (by decide) ?_
            refine g_icmp_gt (q := 45) (t := 75) hx d_Mo_barred_42 rfl rfl (nI_ltI (by omega) (by omega)) (fun h42 => ?_) (fun h42 => ?_)
            · exact absurd h42 (by omega)
            · refine g_iload (q := 47) hx d_Mo_barred_45 rfl rfl ?_
              refine g_if_eq (q := 50) (t := 61) hx d_Mo_barred_47 rfl rfl (zb_eq0 (by omega)) (fun h47 => ?_) (fun h47 => ?_)
              · exact absurd h47 (by omega)
              · refine g_iload_n (q := 51) hx d_Mo_barred_50 rfl rfl ?_
                refine g_iconst (q := 52) (v := nI 1) hx d_Mo_barred_51 rfl (by decide) ?_
                refine g_icmp_lt (q := 55) (t := 75) hx d_Mo_barred_52 rfl rfl Iff.rfl (fun h52 => ?_) (fun h52 => ?_)
                · refine g_iconst (q := 76) (v := nI 1) hx d_Mo_barred_75 rfl (by decide) ?_
                  exact g_iret hx d_Mo_barred_76 rfl hQ ⟨Nat.le_refl _, Nat.le_refl _⟩ ⟨_, rfl, rfl, rfl, rfl, Or.inl ⟨rfl, fun ⟨k9, u9, w1, w2, w3, w4, w5⟩ => mF_big (N := len - rd.1 - mPs rd.2 + 1) (by rw [← w4]; exact hyb) w1 (by omega) (nI_inj4 w2 w3 (by omega)) w5⟩⟩
                · refine g_iload_n (q := 56) hx d_Mo_barred_55 rfl rfl ?_
                  refine g_iload (q := 58) hx d_Mo_barred_56 rfl rfl ?_
                  refine g_icmp_gt (q := 61) (t := 75) hx d_Mo_barred_58 rfl rfl Iff.rfl (fun h58 => ?_) (fun h58 => ?_)
                  · refine g_iconst (q := 76) (v := nI 1) hx d_Mo_barred_75 rfl (by decide) ?_
                    exact g_iret hx d_Mo_barred_76 rfl hQ ⟨Nat.le_refl _, Nat.le_refl _⟩ ⟨_, rfl, rfl, rfl, rfl, Or.inl ⟨rfl, fun ⟨k9, u9, w1, w2, w3, w4, w5⟩ => mF_big (N := len - rd.1 - mPs rd.2 + 1) (by rw [← w4]; exact hyb) w1 (by omega) (nI_inj4 w2 w3 (by omega)) w5⟩⟩
                  · exact absurd (i32_lt_le ((nI_ltI (by omega) (by omega)).mpr (by omega)) hyb) h58
        · exact absurd h21 (by omega)
      · refine g_aload_n (q := 1) hx d_Mo_barred_0 rfl rfl ?_
        refine g_geti (q := 4) hx d_Mo_barred_1 rfl fl_Mo_57 hq.g0 hR.1 ?_
        refine g_aload_n (q := 5) hx d_Mo_barred_4 rfl rfl ?_
        refine g_geta (q := 8) hx d_Mo_barred_5 rfl fl_Mo_13 hq.g0 (hq.p2 hP) (by first | exact Nat.succ_ne_zero _ | omega) ?_
        refine g_iload_n (q := 9) hx d_Mo_barred_8 rfl rfl ?_
        refine g_iald (q := 10) hx d_Mo_barred_9 rfl hq.g2 rfl (by omega) (by decide) q1 ?_
        refine g_isub (q := 11) hx d_Mo_barred_10 rfl (pk_sub (by omega)) ?_
        refine g_aload_n (q := 12) hx d_Mo_barred_11 rfl rfl ?_
        refine g_geta (q := 15) hx d_Mo_barred_12 rfl fl_Mo_22 hq.g0 (hq.p5 hP) (by first | exact Nat.succ_ne_zero _ | omega) ?_
        refine g_iload_n (q := 16) hx d_Mo_barred_15 rfl rfl ?_
        refine g_iald (q := 17) hx d_Mo_barred_16 rfl hq.g5 rfl (by omega) (by decide) q4 ?_
        refine g_isub (q := 18) hx d_Mo_barred_17 rfl (pk_sub (by omega)) ?_
        refine g_istore (q := 20) (lc' := [(4, _), (0, _), (1, _), (2, _), (3, _)]) hx d_Mo_barred_18 rfl (by decide) rfl ?_
        refine g_iload_n (q := 21) hx d_Mo_barred_20 rfl rfl ?_
        refine g_if_eq (q := 24) (t := 29) hx d_Mo_barred_21 rfl rfl (zb_eq0 (by omega)) (fun h21 => ?_) (fun h21 => ?_)
        · refine g_iconst (q := 30) (v := nI 1) hx d_Mo_barred_29 rfl (by decide) ?_
          refine g_goto (q := 34) hx d_Mo_barred_30 rfl ?_
          refine g_istore (q := 36) (lc' := [(5, _), (4, _), (0, _), (1, _), (2, _), (3, _)]) hx d_Mo_barred_34 rfl (by decide) rfl ?_
          refine g_iload_n (q := 37) hx d_Mo_barred_36 rfl rfl ?_
          refine g_if_lt (q := 40) (t := 75) hx d_Mo_barred_37 rfl rfl (zb_lt0 (by omega)) (fun h37 => ?_) (fun h37 => ?_)
          · exact h37.elim
          · refine g_iload_n (q := 41) hx d_Mo_barred_40 rfl rfl ?_
            refine g_iconst (q := 42) (v := nI 3) hx d_Mo_barred_41 rfl (by decide) ?_
            refine g_icmp_gt (q := 45) (t := 75) hx d_Mo_barred_42 rfl rfl (nI_ltI (by omega) (by omega)) (fun h42 => ?_) (fun h42 => ?_)
            · exact absurd h42 (by omega)
            · refine g_iload (q := 47) hx d_Mo_barred_45 rfl rfl ?_
              refine g_if_eq (q := 50) (t := 61) hx d_Mo_barred_47 rfl rfl (zb_eq0 (by omega)) (fun h47 => ?_) (fun h47 => ?_)
              · exact absurd h47 (by omega)
              · refine g_iload_n (q := 51) hx d_Mo_barred_50 rfl rfl ?_
                refine g_iconst (q := 52) (v := nI 1) hx d_Mo_barred_51 rfl (by decide) ?_
                refine g_icmp_lt (q := 55) (t := 75) hx d_Mo_barred_52 rfl rfl (nI_ltI (by omega) (by omega)) (fun h52 => ?_) (fun h52 => ?_)
                · refine g_iconst (q := 76) (v := nI 1) hx d_Mo_barred_75 rfl (by decide) ?_
                  exact g_iret hx d_Mo_barred_76 rfl hQ ⟨Nat.le_refl _, Nat.le_refl _⟩ ⟨_, rfl, rfl, rfl, rfl, Or.inl ⟨rfl, fun ⟨k9, u9, w1, w2, w3, w4, w5⟩ => mF_not (by omega) w1 w2 w3 w4 w5 (fun q => by unfold mFit at q; dsimp only at q; omega)⟩⟩
                · refine g_iload_n (q := 56) hx d_Mo_barred_55 rfl rfl ?_
                  refine g_iload (q := 58) hx d_Mo_barred_56 rfl rfl ?_
                  refine g_icmp_gt (q := 61) (t := 75) hx d_Mo_barred_58 rfl rfl (nI_ltI (by omega) (by omega)) (fun h58 => ?_) (fun h58 => ?_)
                  · exact absurd h58 (by omega)
                  · refine g_iload (q := 63) hx d_Mo_barred_61 rfl rfl ?_
                    refine g_if_ne (q := 66) (t := 77) hx d_Mo_barred_63 rfl rfl (zb_ne0 (by omega)) (fun h63 => ?_) (fun h63 => ?_)
                    · refine g_iload_n (q := 78) hx d_Mo_barred_77 rfl rfl ?_
                      refine g_iconst (q := 79) (v := nI 1) hx d_Mo_barred_78 rfl (by decide) ?_
                      refine g_icmp_ne (q := 82) (t := 112) hx d_Mo_barred_79 rfl rfl (not_congr (nI_eq (by omega) (by omega))) (fun h79 => ?_) (fun h79 => ?_)
                      · refine g_iload_n (q := 113) hx d_Mo_barred_112 rfl rfl ?_
                        refine g_if_ne (q := 116) (t := 120) hx d_Mo_barred_113 rfl rfl (zb_ne0 (by omega)) (fun h113 => ?_) (fun h113 => ?_)
                        · exact absurd h113 (by omega)
                        · refine g_iload_n (q := 117) hx d_Mo_barred_116 rfl rfl ?_
                          refine g_goto (q := 130) hx d_Mo_barred_117 rfl ?_
                          refine g_istore (q := 132) (lc' := [(6, _), (5, _), (4, _), (0, _), (1, _), (2, _), (3, _)]) hx d_Mo_barred_130 rfl (by decide) rfl ?_
                          refine g_iload (q := 134) hx d_Mo_barred_132 rfl rfl ?_
                          refine g_if_eq (q := 137) (t := 172) hx d_Mo_barred_134 rfl rfl (zb_eq0 (by omega)) (fun h134 => ?_) (fun h134 => ?_)
                          · exact absurd h134 (by omega)
                          · refine g_aload_n (q := 138) hx d_Mo_barred_137 rfl rfl ?_
                            refine g_geta (q := 141) hx d_Mo_barred_138 rfl fl_Mo_16 hq.g0 (hq.p3 hP) (by first | exact Nat.succ_ne_zero _ | omega) ?_
                            refine g_iload_n (q := 142) hx d_Mo_barred_141 rfl rfl ?_
                            refine g_iald (q := 143) hx d_Mo_barred_142 rfl hq.g3 rfl (by omega) (by decide) q2 ?_
                            refine g_if_le (q := 146) (t := 172) hx d_Mo_barred_143 rfl rfl (zb_le0 (by omega)) (fun h143 => ?_) (fun h143 => ?_)
                            · refine g_iconst (q := 173) (v := nI 0) hx d_Mo_barred_172 rfl (by decide) ?_
                              refine g_istore (q := 175) (lc' := [(7, _), (6, _), (5, _), (4, _), (0, _), (1, _), (2, _), (3, _)]) hx d_Mo_barred_173 rfl (by decide) rfl ?_
                              refine g_aload_n (q := 176) hx d_Mo_barred_175 rfl rfl ?_
                              refine g_geta (q := 179) hx d_Mo_barred_176 rfl fl_Mo_19 hq.g0 (hq.p4 hP) (by first | exact Nat.succ_ne_zero _ | omega) ?_
                              refine g_iload_n (q := 180) hx d_Mo_barred_179 rfl rfl ?_
                              refine g_iald (q := 181) hx d_Mo_barred_180 rfl hq.g4 rfl (by omega) (by decide) q3 ?_
                              refine g_iload (q := 183) hx d_Mo_barred_181 rfl rfl ?_
                              refine g_iadd (q := 184) hx d_Mo_barred_183 rfl (nI_add _ _) ?_
                              refine g_bipush (q := 186) (v := nI 20) hx d_Mo_barred_184 rfl (by decide) ?_
                              refine g_icmp_gt (q := 189) (t := 205) hx d_Mo_barred_186 rfl rfl (nI_ltI (by omega) (by omega)) (fun h186 => ?_) (fun h186 => ?_)
                              · refine g_iconst (q := 206) (v := nI 2) hx d_Mo_barred_205 rfl (by decide) ?_
                                refine g_goto (q := 210) hx d_Mo_barred_206 rfl ?_
                                exact g_iret hx d_Mo_barred_210 rfl hQ ⟨Nat.le_refl _, Nat.le_refl _⟩ ⟨_, rfl, rfl, rfl, rfl, Or.inr ⟨0, u, rfl, by omega, rfl, by omega, Or.inl ⟨Or.inl rfl, by (try dsimp only); omega, by (try dsimp only); omega⟩, Or.inl ⟨rfl, fun hr9 => by have hr8 := hr9; unfold mRoom mJn at hr8; rw [show mCnt (0, u) = u from rfl] at hr8; dsimp only at hr8; omega⟩⟩⟩
                              · refine g_aload_n (q := 190) hx d_Mo_barred_189 rfl rfl ?_
                                refine g_geta (q := 193) hx d_Mo_barred_190 rfl fl_Mo_16 hq.g0 (hq.p3 hP) (by first | exact Nat.succ_ne_zero _ | omega) ?_
                                refine g_iload_n (q := 194) hx d_Mo_barred_193 rfl rfl ?_
                                refine g_iald (q := 195) hx d_Mo_barred_194 rfl hq.g3 rfl (by omega) (by decide) q2 ?_
                                refine g_bipush (q := 197) (v := nI 12) hx d_Mo_barred_195 rfl (by decide) ?_
                                refine g_icmp_ne (q := 200) (t := 209) hx d_Mo_barred_197 rfl rfl (not_congr (nI_eq (by omega) (by omega))) (fun h197 => ?_) (fun h197 => ?_)
                                · refine g_iconst (q := 210) (v := nI 0) hx d_Mo_barred_209 rfl (by decide) ?_
                                  exact g_iret hx d_Mo_barred_210 rfl hQ ⟨Nat.le_refl _, Nat.le_refl _⟩ ⟨_, rfl, rfl, rfl, rfl, Or.inr ⟨0, u, rfl, by omega, rfl, by omega, Or.inl ⟨Or.inl rfl, by (try dsimp only); omega, by (try dsimp only); omega⟩, Or.inr ⟨rfl, by unfold mRoom mJn; rw [show mCnt (0, u) = u from rfl]; dsimp only; omega⟩⟩⟩
                                · refine g_iload (q := 202) hx d_Mo_barred_200 rfl rfl ?_
                                  refine g_if_ne (q := 205) (t := 209) hx d_Mo_barred_202 rfl rfl (zb_ne0 (by omega)) (fun h202 => ?_) (fun h202 => ?_)
                                  · exact absurd h202 (by omega)
                                  · refine g_iconst (q := 206) (v := nI 2) hx d_Mo_barred_205 rfl (by decide) ?_
                                    refine g_goto (q := 210) hx d_Mo_barred_206 rfl ?_
                                    exact g_iret hx d_Mo_barred_210 rfl hQ ⟨Nat.le_refl _, Nat.le_refl _⟩ ⟨_, rfl, rfl, rfl, rfl, Or.inr ⟨0, u, rfl, by omega, rfl, by omega, Or.inl ⟨Or.inl rfl, by (try dsimp only); omega, by (try dsimp only); omega⟩, Or.inl ⟨rfl, fun hr9 => by have hr8 := hr9; unfold mRoom mJn at hr8; rw [show mCnt (0, u) = u from rfl] at hr8; dsimp only at hr8; omega⟩⟩⟩
                            · refine g_aload_n (q := 147) hx d_Mo_barred_146 rfl rfl ?_
                              refine g_geta (q := 150) hx d_Mo_barred_147 rfl fl_Mo_25 hq.g0 (hq.p6 hP) (by first | exact Nat.succ_ne_zero _ | omega) ?_
                              refine g_bipush (q := 152) (v := nI 12) hx d_Mo_barred_150 rfl (by decide) ?_
                              refine g_iload_n (q := 153) hx d_Mo_barred_152 rfl rfl ?_
                              refine g_imul (q := 154) hx d_Mo_barred_153 rfl (pk_mul _ _) ?_
                              refine g_aload_n (q := 155) hx d_Mo_barred_154 rfl rfl ?_
                              refine g_geta (q := 158) hx d_Mo_barred_155 rfl fl_Mo_16 hq.g0 (hq.p3 hP) (by first | exact Nat.succ_ne_zero _ | omega) ?_
                              refine g_iload_n (q := 159) hx d_Mo_barred_158 rfl rfl ?_
                              refine g_iald (q := 160) hx d_Mo_barred_159 rfl hq.g3 rfl (by omega) (by decide) q2 ?_
                              refine g_iadd (q := 161) hx d_Mo_barred_160 rfl (nI_add _ _) ?_
                              refine g_iconst (q := 162) (v := nI 1) hx d_Mo_barred_161 rfl (by decide) ?_
                              refine g_isub (q := 163) hx d_Mo_barred_162 rfl (pk_sub (by omega)) ?_
                              refine g_iald (q := 164) hx d_Mo_barred_163 rfl hq.g6 (congrArg nI (by omega : 12 * r + rd.2.length - 1 = 12 * r + (rd.2.length - 1))) (by omega) (by decide) (q5b (by omega)) ?_
                              refine g_iload_n (q := 165) hx d_Mo_barred_164 rfl rfl ?_
                              refine g_icmp_ne (q := 168) (t := 172) hx d_Mo_barred_165 rfl rfl (not_congr (nI_eq (by omega) (by omega))) (fun h165 => ?_) (fun h165 => ?_)
                              · refine g_iconst (q := 173) (v := nI 0) hx d_Mo_barred_172 rfl (by decide) ?_
                                refine g_istore (q := 175) (lc' := [(7, _), (6, _), (5, _), (4, _), (0, _), (1, _), (2, _), (3, _)]) hx d_Mo_barred_173 rfl (by decide) rfl ?_
                                refine g_aload_n (q := 176) hx d_Mo_barred_175 rfl rfl ?_
                                refine g_geta (q := 179) hx d_Mo_barred_176 rfl fl_Mo_19 hq.g0 (hq.p4 hP) (by first | exact Nat.succ_ne_zero _ | omega) ?_
                                refine g_iload_n (q := 180) hx d_Mo_barred_179 rfl rfl ?_
                                refine g_iald (q := 181) hx d_Mo_barred_180 rfl hq.g4 rfl (by omega) (by decide) q3 ?_
                                refine g_iload (q := 183) hx d_Mo_barred_181 rfl rfl ?_
                                refine g_iadd (q := 184) hx d_Mo_barred_183 rfl (nI_add _ _) ?_
                                refine g_bipush (q := 186) (v := nI 20) hx d_Mo_barred_184 rfl (by decide) ?_
                                refine g_icmp_gt (q := 189) (t := 205) hx d_Mo_barred_186 rfl rfl (nI_ltI (by omega) (by omega)) (fun h186 => ?_) (fun h186 => ?_)
                                · refine g_iconst (q := 206) (v := nI 2) hx d_Mo_barred_205 rfl (by decide) ?_
                                  refine g_goto (q := 210) hx d_Mo_barred_206 rfl ?_
                                  exact g_iret hx d_Mo_barred_210 rfl hQ ⟨Nat.le_refl _, Nat.le_refl _⟩ ⟨_, rfl, rfl, rfl, rfl, Or.inr ⟨0, u, rfl, by omega, rfl, by omega, Or.inl ⟨Or.inl rfl, by (try dsimp only); omega, by (try dsimp only); omega⟩, Or.inl ⟨rfl, fun hr9 => by have hr8 := hr9; unfold mRoom mJn at hr8; rw [show mCnt (0, u) = u from rfl] at hr8; dsimp only at hr8; omega⟩⟩⟩
                                · refine g_aload_n (q := 190) hx d_Mo_barred_189 rfl rfl ?_
                                  refine g_geta (q := 193) hx d_Mo_barred_190 rfl fl_Mo_16 hq.g0 (hq.p3 hP) (by first | exact Nat.succ_ne_zero _ | omega) ?_
                                  refine g_iload_n (q := 194) hx d_Mo_barred_193 rfl rfl ?_
                                  refine g_iald (q := 195) hx d_Mo_barred_194 rfl hq.g3 rfl (by omega) (by decide) q2 ?_
                                  refine g_bipush (q := 197) (v := nI 12) hx d_Mo_barred_195 rfl (by decide) ?_
                                  refine g_icmp_ne (q := 200) (t := 209) hx d_Mo_barred_197 rfl rfl (not_congr (nI_eq (by omega) (by omega))) (fun h197 => ?_) (fun h197 => ?_)
                                  · refine g_iconst (q := 210) (v := nI 0) hx d_Mo_barred_209 rfl (by decide) ?_
                                    exact g_iret hx d_Mo_barred_210 rfl hQ ⟨Nat.le_refl _, Nat.le_refl _⟩ ⟨_, rfl, rfl, rfl, rfl, Or.inr ⟨0, u, rfl, by omega, rfl, by omega, Or.inl ⟨Or.inl rfl, by (try dsimp only); omega, by (try dsimp only); omega⟩, Or.inr ⟨rfl, by unfold mRoom mJn; rw [show mCnt (0, u) = u from rfl]; dsimp only; omega⟩⟩⟩
                                  · refine g_iload (q := 202) hx d_Mo_barred_200 rfl rfl ?_
                                    refine g_if_ne (q := 205) (t := 209) hx d_Mo_barred_202 rfl rfl (zb_ne0 (by omega)) (fun h202 => ?_) (fun h202 => ?_)
                                    · exact absurd h202 (by omega)
                                    · refine g_iconst (q := 206) (v := nI 2) hx d_Mo_barred_205 rfl (by decide) ?_
                                      refine g_goto (q := 210) hx d_Mo_barred_206 rfl ?_
                                      exact g_iret hx d_Mo_barred_210 rfl hQ ⟨Nat.le_refl _, Nat.le_refl _⟩ ⟨_, rfl, rfl, rfl, rfl, Or.inr ⟨0, u, rfl, by omega, rfl, by omega, Or.inl ⟨Or.inl rfl, by (try dsimp only); omega, by (try dsimp only); omega⟩, Or.inl ⟨rfl, fun hr9 => by have hr8 := hr9; unfold mRoom mJn at hr8; rw [show mCnt (0, u) = u from rfl] at hr8; dsimp only at hr8; omega⟩⟩⟩
                              · refine g_iconst (q := 169) (v := nI 1) hx d_Mo_barred_168 rfl (by decide) ?_
                                refine g_goto (q := 173) hx d_Mo_barred_169 rfl ?_
                                refine g_istore (q := 175) (lc' := [(7, _), (6, _), (5, _), (4, _), (0, _), (1, _), (2, _), (3, _)]) hx d_Mo_barred_173 rfl (by decide) rfl ?_
                                refine g_aload_n (q := 176) hx d_Mo_barred_175 rfl rfl ?_
                                refine g_geta (q := 179) hx d_Mo_barred_176 rfl fl_Mo_19 hq.g0 (hq.p4 hP) (by first | exact Nat.succ_ne_zero _ | omega) ?_
                                refine g_iload_n (q := 180) hx d_Mo_barred_179 rfl rfl ?_
                                refine g_iald (q := 181) hx d_Mo_barred_180 rfl hq.g4 rfl (by omega) (by decide) q3 ?_
                                refine g_iload (q := 183) hx d_Mo_barred_181 rfl rfl ?_
                                refine g_iadd (q := 184) hx d_Mo_barred_183 rfl (nI_add _ _) ?_
                                refine g_bipush (q := 186) (v := nI 20) hx d_Mo_barred_184 rfl (by decide) ?_
                                refine g_icmp_gt (q := 189) (t := 205) hx d_Mo_barred_186 rfl rfl (nI_ltI (by omega) (by omega)) (fun h186 => ?_) (fun h186 => ?_)
                                · refine g_iconst (q := 206) (v := nI 2) hx d_Mo_barred_205 rfl (by decide) ?_
                                  refine g_goto (q := 210) hx d_Mo_barred_206 rfl ?_
                                  exact g_iret hx d_Mo_barred_210 rfl hQ ⟨Nat.le_refl _, Nat.le_refl _⟩ ⟨_, rfl, rfl, rfl, rfl, Or.inr ⟨0, u, rfl, by omega, rfl, by omega, Or.inl ⟨Or.inl rfl, by (try dsimp only); omega, by (try dsimp only); omega⟩, Or.inl ⟨rfl, fun hr9 => by have hr8 := hr9; unfold mRoom mJn at hr8; rw [show mCnt (0, u) = u from rfl] at hr8; dsimp only at hr8; omega⟩⟩⟩
                                · refine g_aload_n (q := 190) hx d_Mo_barred_189 rfl rfl ?_
                                  refine g_geta (q := 193) hx d_Mo_barred_190 rfl fl_Mo_16 hq.g0 (hq.p3 hP) (by first | exact Nat.succ_ne_zero _ | omega) ?_
                                  refine g_iload_n (q := 194) hx d_Mo_barred_193 rfl rfl ?_
                                  refine g_iald (q := 195) hx d_Mo_barred_194 rfl hq.g3 rfl (by omega) (by decide) q2 ?_
                                  refine g_bipush (q := 197) (v := nI 12) hx d_Mo_barred_195 rfl (by decide) ?_
                                  refine g_icmp_ne (q := 200) (t := 209) hx d_Mo_barred_197 rfl rfl (not_congr (nI_eq (by omega) (by omega))) (fun h197 => ?_) (fun h197 => ?_)
                                  · refine g_iconst (q := 210) (v := nI 0) hx d_Mo_barred_209 rfl (by decide) ?_
                                    exact g_iret hx d_Mo_barred_210 rfl hQ ⟨Nat.le_refl _, Nat.le_refl _⟩ ⟨_, rfl, rfl, rfl, rfl, Or.inr ⟨0, u, rfl, by omega, rfl, by omega, Or.inl ⟨Or.inl rfl, by (try dsimp only); omega, by (try dsimp only); omega⟩, Or.inr ⟨rfl, by unfold mRoom mJn; rw [show mCnt (0, u) = u from rfl]; dsimp only; omega⟩⟩⟩
                                  · refine g_iload (q := 202) hx d_Mo_barred_200 rfl rfl ?_
                                    refine g_if_ne (q := 205) (t := 209) hx d_Mo_barred_202 rfl rfl (zb_ne0 (by omega)) (fun h202 => ?_) (fun h202 => ?_)
                                    · refine g_iconst (q := 210) (v := nI 0) hx d_Mo_barred_209 rfl (by decide) ?_
                                      exact g_iret hx d_Mo_barred_210 rfl hQ ⟨Nat.le_refl _, Nat.le_refl _⟩ ⟨_, rfl, rfl, rfl, rfl, Or.inr ⟨0, u, rfl, by omega, rfl, by omega, Or.inl ⟨Or.inl rfl, by (try dsimp only); omega, by (try dsimp only); omega⟩, Or.inr ⟨rfl, by unfold mRoom mJn; rw [show mCnt (0, u) = u from rfl]; dsimp only; omega⟩⟩⟩
                                    · exact absurd h202 (by omega)
                      · exact absurd h79 (by omega)
                    · exact absurd h63 (by omega)
        · exact absurd h21 (by omega)
    · rcases pk_ix y (n := 4) (by omega) with hyn | hyb | ⟨u, hu, rfl⟩
      · refine g_aload_n (q := 1) hx d_Mo_barred_0 rfl rfl ?_
        refine g_geti (q := 4) hx d_Mo_barred_1 rfl fl_Mo_57 hq.g0 hR.1 ?_
        refine g_aload_n (q := 5) hx d_Mo_barred_4 rfl rfl ?_
        refine g_geta (q := 8) hx d_Mo_barred_5 rfl fl_Mo_13 hq.g0 (hq.p2 hP) (by first | exact Nat.succ_ne_zero _ | omega) ?_
        refine g_iload_n (q := 9) hx d_Mo_barred_8 rfl rfl ?_
        refine g_iald (q := 10) hx d_Mo_barred_9 rfl hq.g2 rfl (by omega) (by decide) q1 ?_
        refine g_isub (q := 11) hx d_Mo_barred_10 rfl (pk_sub (by omega)) ?_
        refine g_aload_n (q := 12) hx d_Mo_barred_11 rfl rfl ?_
        refine g_geta (q := 15) hx d_Mo_barred_12 rfl fl_Mo_22 hq.g0 (hq.p5 hP) (by first | exact Nat.succ_ne_zero _ | omega) ?_
        refine g_iload_n (q := 16) hx d_Mo_barred_15 rfl rfl ?_
        refine g_iald (q := 17) hx d_Mo_barred_16 rfl hq.g5 rfl (by omega) (by decide) q4 ?_
        refine g_isub (q := 18) hx d_Mo_barred_17 rfl (pk_sub (by omega)) ?_
        refine g_istore (q := 20) (lc' := [(4, _), (0, _), (1, _), (2, _), (3, _)]) hx d_Mo_barred_18 rfl (by decide) rfl ?_
        refine g_iload_n (q := 21) hx d_Mo_barred_20 rfl rfl ?_
        refine g_if_eq (q := 24) (t := 29) hx d_Mo_barred_21 rfl rfl (zb_eq0 (by omega)) (fun h21 => ?_) (fun h21 => ?_)
        · exact absurd h21 (by omega)
        · refine g_iload_n (q := 25) hx d_Mo_barred_24 rfl rfl ?_
          refine g_iconst (q := 26) (v := nI 3) hx d_Mo_barred_25 rfl (by decide) ?_
          refine g_icmp_ne (q := 29) (t := 33) hx d_Mo_barred_26 rfl rfl (not_congr (nI_eq (by omega) (by omega))) (fun h26 => ?_) (fun h26 => ?_)
          · refine g_iconst (q := 34) (v := nI 0) hx d_Mo_barred_33 rfl (by decide) ?_
            refine g_istore (q := 36) (lc' := [(5, _), (4, _), (0, _), (1, _), (2, _), (3, _)]) hx d_Mo_barred_34 rfl (by decide) rfl ?_
            refine g_iload_n (q := 37) hx d_Mo_barred_36 rfl rfl ?_
            refine g_if_lt (q := 40) (t := 75) hx d_Mo_barred_37 rfl rfl (zb_lt0 (by omega)) (fun h37 => ?_) (fun h37 => ?_)
            · exact h37.elim
            · refine g_iload_n (q := 41) hx d_Mo_barred_40 rfl rfl ?_
              refine g_iconst (q := 42) (v := nI 3) hx d_Mo_barred_41 rfl (by decide) ?_
              refine g_icmp_gt (q := 45) (t := 75) hx d_Mo_barred_42 rfl rfl (nI_ltI (by omega) (by omega)) (fun h42 => ?_) (fun h42 => ?_)
              · exact absurd h42 (by omega)
              · refine g_iload (q := 47) hx d_Mo_barred_45 rfl rfl ?_
                refine g_if_eq (q := 50) (t := 61) hx d_Mo_barred_47 rfl rfl (zb_eq0 (by omega)) (fun h47 => ?_) (fun h47 => ?_)
                · refine g_iload (q := 63) hx d_Mo_barred_61 rfl rfl ?_
                  refine g_if_ne (q := 66) (t := 77) hx d_Mo_barred_63 rfl rfl (zb_ne0 (by omega)) (fun h63 => ?_) (fun h63 => ?_)
                  · exact absurd h63 (by omega)
                  · refine g_iload_n (q := 67) hx d_Mo_barred_66 rfl rfl ?_
                    refine g_if_lt (q := 70) (t := 75) hx d_Mo_barred_67 rfl rfl Iff.rfl (fun h67 => ?_) (fun h67 => ?_)
                    · refine g_iconst (q := 76) (v := nI 1) hx d_Mo_barred_75 rfl (by decide) ?_
                      exact g_iret hx d_Mo_barred_76 rfl hQ ⟨Nat.le_refl _, Nat.le_refl _⟩ ⟨_, rfl, rfl, rfl, rfl, Or.inl ⟨rfl, fun ⟨k9, u9, w1, w2, w3, w4, w5⟩ => (nI_pos w1 (by rw [← w4]; exact hyn)).elim⟩⟩
                    · exact absurd hyn h67
                · exact absurd h47 (by omega)
          · exact absurd h26 (by omega)
      · refine g_aload_n (q := 1) hx d_Mo_barred_0 rfl rfl ?_
        refine g_geti (q := 4) hx d_Mo_barred_1 rfl fl_Mo_57 hq.g0 hR.1 ?_
        refine g_aload_n (q := 5) hx d_Mo_barred_4 rfl rfl ?_
        refine g_geta (q := 8) hx d_Mo_barred_5 rfl fl_Mo_13 hq.g0 (hq.p2 hP) (by first | exact Nat.succ_ne_zero _ | omega) ?_
        refine g_iload_n (q := 9) hx d_Mo_barred_8 rfl rfl ?_
        refine g_iald (q := 10) hx d_Mo_barred_9 rfl hq.g2 rfl (by omega) (by decide) q1 ?_
        refine g_isub (q := 11) hx d_Mo_barred_10 rfl (pk_sub (by omega)) ?_
        refine g_aload_n (q := 12) hx d_Mo_barred_11 rfl rfl ?_
        refine g_geta (q := 15) hx d_Mo_barred_12 rfl fl_Mo_22 hq.g0 (hq.p5 hP) (by first | exact Nat.succ_ne_zero _ | omega) ?_
        refine g_iload_n (q := 16) hx d_Mo_barred_15 rfl rfl ?_
        refine g_iald (q := 17) hx d_Mo_barred_16 rfl hq.g5 rfl (by omega) (by decide) q4 ?_
        refine g_isub (q := 18) hx d_Mo_barred_17 rfl (pk_sub (by omega)) ?_
        refine g_istore (q := 20) (lc' := [(4, _), (0, _), (1, _), (2, _), (3, _)]) hx d_Mo_barred_18 rfl (by decide) rfl ?_
        refine g_iload_n (q := 21) hx d_Mo_barred_20 rfl rfl ?_
        refine g_if_eq (q := 24) (t := 29) hx d_Mo_barred_21 rfl rfl (zb_eq0 (by omega)) (fun h21 => ?_) (fun h21 => ?_)
        · exact absurd h21 (by omega)
        · refine g_iload_n (q := 25) hx d_Mo_barred_24 rfl rfl ?_
          refine g_iconst (q := 26) (v := nI 3) hx d_Mo_barred_25 rfl (by decide) ?_
          refine g_icmp_ne (q := 29) (t := 33) hx d_Mo_barred_26 rfl rfl (not_congr (nI_eq (by omega) (by omega))) (fun h26 => ?_) (fun h26 => ?_)
          · refine g_iconst (q := 34) (v := nI 0) hx d_Mo_barred_33 rfl (by decide) ?_
            refine g_istore (q := 36) (lc' := [(5, _), (4, _), (0, _), (1, _), (2, _), (3, _)]) hx d_Mo_barred_34 rfl (by decide) rfl ?_
            refine g_iload_n (q := 37) hx d_Mo_barred_36 rfl rfl ?_
            refine g_if_lt (q := 40) (t := 75) hx d_Mo_barred_37 rfl rfl (zb_lt0 (by omega)) (fun h37 => ?_) (fun h37 => ?_)
            · exact h37.elim
            · refine g_iload_n (q := 41) hx d_Mo_barred_40 rfl rfl ?_
              refine g_iconst (q := 42) (v := nI 3) hx d_Mo_barred_41 rfl (by decide) ?_
              refine g_icmp_gt (q := 45) (t := 75) hx d_Mo_barred_42 rfl rfl (nI_ltI (by omega) (by omega)) (fun h42 => ?_) (fun h42 => ?_)
              · exact absurd h42 (by omega)
              · refine g_iload (q := 47) hx d_Mo_barred_45 rfl rfl ?_
                refine g_if_eq (q := 50) (t := 61) hx d_Mo_barred_47 rfl rfl (zb_eq0 (by omega)) (fun h47 => ?_) (fun h47 => ?_)
                · refine g_iload (q := 63) hx d_Mo_barred_61 rfl rfl ?_
                  refine g_if_ne (q := 66) (t := 77) hx d_Mo_barred_63 rfl rfl (zb_ne0 (by omega)) (fun h63 => ?_) (fun h63 => ?_)
                  · exact absurd h63 (by omega)
                  · refine g_iload_n (q := 67) hx d_Mo_barred_66 rfl rfl ?_
                    refine g_if_lt (q := 70) (t := 75) hx d_Mo_barred_67 rfl rfl Iff.rfl (fun h67 => ?_) (fun h67 => ?_)
                    · refine g_iconst (q := 76) (v := nI 1) hx d_Mo_barred_75 rfl (by decide) ?_
                      exact g_iret hx d_Mo_barred_76 rfl hQ ⟨Nat.le_refl _, Nat.le_refl _⟩ ⟨_, rfl, rfl, rfl, rfl, Or.inl ⟨rfl, fun ⟨k9, u9, w1, w2, w3, w4, w5⟩ => mF_big (N := 4) (by rw [← w4]; exact hyb) w1 (by omega) (nI_inj4 w2 w3 (by omega)) w5⟩⟩
                    · refine g_iload_n (q := 71) hx d_Mo_barred_70 rfl rfl ?_
                      refine g_iconst (q := 72) (v := nI 3) hx d_Mo_barred_71 rfl (by decide) ?_
                      refine g_icmp_le (q := 75) (t := 77) hx d_Mo_barred_72 rfl rfl Iff.rfl (fun h72 => ?_) (fun h72 => ?_)
                      · exact absurd h72 (i32_not_le (i32_lt_le ((nI_ltI (by omega) (by omega)).mpr (by omega)) hyb))
                      · refine g_iconst (q := 76) (v := nI 1) hx d_Mo_barred_75 rfl (by decide) ?_
                        exact g_iret hx d_Mo_barred_76 rfl hQ ⟨Nat.le_refl _, Nat.le_refl _⟩ ⟨_, rfl, rfl, rfl, rfl, Or.inl ⟨rfl, fun ⟨k9, u9, w1, w2, w3, w4, w5⟩ => mF_big (N := 4) (by rw [← w4]; exact hyb) w1 (by omega) (nI_inj4 w2 w3 (by omega)) w5⟩⟩
                · exact absurd h47 (by omega)
          · exact absurd h26 (by omega)
      · refine g_aload_n (q := 1) hx d_Mo_barred_0 rfl rfl ?_
        refine g_geti (q := 4) hx d_Mo_barred_1 rfl fl_Mo_57 hq.g0 hR.1 ?_
        refine g_aload_n (q := 5) hx d_Mo_barred_4 rfl rfl ?_
        refine g_geta (q := 8) hx d_Mo_barred_5 rfl fl_Mo_13 hq.g0 (hq.p2 hP) (by first | exact Nat.succ_ne_zero _ | omega) ?_
        refine g_iload_n (q := 9) hx d_Mo_barred_8 rfl rfl ?_
        refine g_iald (q := 10) hx d_Mo_barred_9 rfl hq.g2 rfl (by omega) (by decide) q1 ?_
        refine g_isub (q := 11) hx d_Mo_barred_10 rfl (pk_sub (by omega)) ?_
        refine g_aload_n (q := 12) hx d_Mo_barred_11 rfl rfl ?_
        refine g_geta (q := 15) hx d_Mo_barred_12 rfl fl_Mo_22 hq.g0 (hq.p5 hP) (by first | exact Nat.succ_ne_zero _ | omega) ?_
        refine g_iload_n (q := 16) hx d_Mo_barred_15 rfl rfl ?_
        refine g_iald (q := 17) hx d_Mo_barred_16 rfl hq.g5 rfl (by omega) (by decide) q4 ?_
        refine g_isub (q := 18) hx d_Mo_barred_17 rfl (pk_sub (by omega)) ?_
        refine g_istore (q := 20) (lc' := [(4, _), (0, _), (1, _), (2, _), (3, _)]) hx d_Mo_barred_18 rfl (by decide) rfl ?_
        refine g_iload_n (q := 21) hx d_Mo_barred_20 rfl rfl ?_
        refine g_if_eq (q := 24) (t := 29) hx d_Mo_barred_21 rfl rfl (zb_eq0 (by omega)) (fun h21 => ?_) (fun h21 => ?_)
        · exact absurd h21 (by omega)
        · refine g_iload_n (q := 25) hx d_Mo_barred_24 rfl rfl ?_
          refine g_iconst (q := 26) (v := nI 3) hx d_Mo_barred_25 rfl (by decide) ?_
          refine g_icmp_ne (q := 29) (t := 33) hx d_Mo_barred_26 rfl rfl (not_congr (nI_eq (by omega) (by omega))) (fun h26 => ?_) (fun h26 => ?_)
          · refine g_iconst (q := 34) (v := nI 0) hx d_Mo_barred_33 rfl (by decide) ?_
            refine g_istore (q := 36) (lc' := [(5, _), (4, _), (0, _), (1, _), (2, _), (3, _)]) hx d_Mo_barred_34 rfl (by decide) rfl ?_
            refine g_iload_n (q := 37) hx d_Mo_barred_36 rfl rfl ?_
            refine g_if_lt (q := 40) (t := 75) hx d_Mo_barred_37 rfl rfl (zb_lt0 (by omega)) (fun h37 => ?_) (fun h37 => ?_)
            · exact h37.elim
            · refine g_iload_n (q := 41) hx d_Mo_barred_40 rfl rfl ?_
              refine g_iconst (q := 42) (v := nI 3) hx d_Mo_barred_41 rfl (by decide) ?_
              refine g_icmp_gt (q := 45) (t := 75) hx d_Mo_barred_42 rfl rfl (nI_ltI (by omega) (by omega)) (fun h42 => ?_) (fun h42 => ?_)
              · exact absurd h42 (by omega)
              · refine g_iload (q := 47) hx d_Mo_barred_45 rfl rfl ?_
                refine g_if_eq (q := 50) (t := 61) hx d_Mo_barred_47 rfl rfl (zb_eq0 (by omega)) (fun h47 => ?_) (fun h47 => ?_)
                · refine g_iload (q := 63) hx d_Mo_barred_61 rfl rfl ?_
                  refine g_if_ne (q := 66) (t := 77) hx d_Mo_barred_63 rfl rfl (zb_ne0 (by omega)) (fun h63 => ?_) (fun h63 => ?_)
                  · exact absurd h63 (by omega)
                  · refine g_iload_n (q := 67) hx d_Mo_barred_66 rfl rfl ?_
                    refine g_if_lt (q := 70) (t := 75) hx d_Mo_barred_67 rfl rfl (zb_lt0 (by omega)) (fun h67 => ?_) (fun h67 => ?_)
                    · exact h67.elim
                    · refine g_iload_n (q := 71) hx d_Mo_barred_70 rfl rfl ?_
                      refine g_iconst (q := 72) (v := nI 3) hx d_Mo_barred_71 rfl (by decide) ?_
                      refine g_icmp_le (q := 75) (t := 77) hx d_Mo_barred_72 rfl rfl (nI_leI (by omega) (by omega)) (fun h72 => ?_) (fun h72 => ?_)
                      · refine g_iload_n (q := 78) hx d_Mo_barred_77 rfl rfl ?_
                        refine g_iconst (q := 79) (v := nI 1) hx d_Mo_barred_78 rfl (by decide) ?_
                        refine g_icmp_ne (q := 82) (t := 112) hx d_Mo_barred_79 rfl rfl (not_congr (nI_eq (by omega) (by omega))) (fun h79 => ?_) (fun h79 => ?_)
                        · exact absurd h79 (by omega)
                        · refine g_iload (q := 84) hx d_Mo_barred_82 rfl rfl ?_
                          refine g_iconst (q := 85) (v := nI 1) hx d_Mo_barred_84 rfl (by decide) ?_
                          refine g_icmp_lt (q := 88) (t := 110) hx d_Mo_barred_85 rfl rfl (nI_ltI (by omega) (by omega)) (fun h85 => ?_) (fun h85 => ?_)
                          · refine g_iconst (q := 111) (v := nI 1) hx d_Mo_barred_110 rfl (by decide) ?_
                            exact g_iret hx d_Mo_barred_111 rfl hQ ⟨Nat.le_refl _, Nat.le_refl _⟩ ⟨_, rfl, rfl, rfl, rfl, Or.inl ⟨rfl, fun ⟨k9, u9, w1, w2, w3, w4, w5⟩ => mF_not (by omega) w1 w2 w3 w4 w5 (fun q => by unfold mFit at q; dsimp only at q; omega)⟩⟩
                          · refine g_aload_n (q := 89) hx d_Mo_barred_88 rfl rfl ?_
                            refine g_geta (q := 92) hx d_Mo_barred_89 rfl fl_Mo_7 hq.g0 (hq.p1 hP) (by first | exact Nat.succ_ne_zero _ | omega) ?_
                            refine g_aload_n (q := 93) hx d_Mo_barred_92 rfl rfl ?_
                            refine g_geta (q := 96) hx d_Mo_barred_93 rfl fl_Mo_13 hq.g0 (hq.p2 hP) (by first | exact Nat.succ_ne_zero _ | omega) ?_
                            refine g_iload_n (q := 97) hx d_Mo_barred_96 rfl rfl ?_
                            refine g_iald (q := 98) hx d_Mo_barred_97 rfl hq.g2 rfl (by omega) (by decide) q1 ?_
                            refine g_aload_n (q := 99) hx d_Mo_barred_98 rfl rfl ?_
                            refine g_geta (q := 102) hx d_Mo_barred_99 rfl fl_Mo_22 hq.g0 (hq.p5 hP) (by first | exact Nat.succ_ne_zero _ | omega) ?_
                            refine g_iload_n (q := 103) hx d_Mo_barred_102 rfl rfl ?_
                            refine g_iald (q := 104) hx d_Mo_barred_103 rfl hq.g5 rfl (by omega) (by decide) q4 ?_
                            refine g_iadd (q := 105) hx d_Mo_barred_104 rfl (nI_add _ _) ?_
                            refine g_iald (q := 106) hx d_Mo_barred_105 rfl hq.g1 rfl (by omega) (by decide) (hR.2.1 (rd.1 + mPs rd.2) (by omega)) ?_
                            refine g_iload_n (q := 107) hx d_Mo_barred_106 rfl rfl ?_
                            refine g_icmp_ne (q := 110) (t := 112) hx d_Mo_barred_107 rfl rfl (not_congr (nI_eq (by omega) (by omega))) (fun h107 => ?_) (fun h107 => ?_)
                            · refine g_iload_n (q := 113) hx d_Mo_barred_112 rfl rfl ?_
                              refine g_if_ne (q := 116) (t := 120) hx d_Mo_barred_113 rfl rfl (zb_ne0 (by omega)) (fun h113 => ?_) (fun h113 => ?_)
                              · refine g_iload_n (q := 121) hx d_Mo_barred_120 rfl rfl ?_
                                refine g_iconst (q := 122) (v := nI 3) hx d_Mo_barred_121 rfl (by decide) ?_
                                refine g_icmp_ne (q := 125) (t := 129) hx d_Mo_barred_122 rfl rfl (not_congr (nI_eq (by omega) (by omega))) (fun h122 => ?_) (fun h122 => ?_)
                                · refine g_iconst (q := 130) (v := nI 1) hx d_Mo_barred_129 rfl (by decide) ?_
                                  refine g_istore (q := 132) (lc' := [(6, _), (5, _), (4, _), (0, _), (1, _), (2, _), (3, _)]) hx d_Mo_barred_130 rfl (by decide) rfl ?_
                                  refine g_iload (q := 134) hx d_Mo_barred_132 rfl rfl ?_
                                  refine g_if_eq (q := 137) (t := 172) hx d_Mo_barred_134 rfl rfl (zb_eq0 (by omega)) (fun h134 => ?_) (fun h134 => ?_)
                                  · refine g_iconst (q := 173) (v := nI 0) hx d_Mo_barred_172 rfl (by decide) ?_
                                    refine g_istore (q := 175) (lc' := [(7, _), (6, _), (5, _), (4, _), (0, _), (1, _), (2, _), (3, _)]) hx d_Mo_barred_173 rfl (by decide) rfl ?_
                                    refine g_aload_n (q := 176) hx d_Mo_barred_175 rfl rfl ?_
                                    refine g_geta (q := 179) hx d_Mo_barred_176 rfl fl_Mo_19 hq.g0 (hq.p4 hP) (by first | exact Nat.succ_ne_zero _ | omega) ?_
                                    refine g_iload_n (q := 180) hx d_Mo_barred_179 rfl rfl ?_
                                    refine g_iald (q := 181) hx d_Mo_barred_180 rfl hq.g4 rfl (by omega) (by decide) q3 ?_
                                    refine g_iload (q := 183) hx d_Mo_barred_181 rfl rfl ?_
                                    refine g_iadd (q := 184) hx d_Mo_barred_183 rfl (nI_add _ _) ?_
                                    refine g_bipush (q := 186) (v := nI 20) hx d_Mo_barred_184 rfl (by decide) ?_
                                    refine g_icmp_gt (q := 189) (t := 205) hx d_Mo_barred_186 rfl rfl (nI_ltI (by omega) (by omega)) (fun h186 => ?_) (fun h186 => ?_)
                                    · refine g_iconst (q := 206) (v := nI 2) hx d_Mo_barred_205 rfl (by decide) ?_
                                      refine g_goto (q := 210) hx d_Mo_barred_206 rfl ?_
                                      exact g_iret hx d_Mo_barred_210 rfl hQ ⟨Nat.le_refl _, Nat.le_refl _⟩ ⟨_, rfl, rfl, rfl, rfl, Or.inr ⟨1, u, rfl, by omega, rfl, by omega, Or.inr (Or.inl ⟨rfl, by (try dsimp only); omega, by (try dsimp only); omega, by (try dsimp only); omega⟩), Or.inl ⟨rfl, fun hr9 => by have hr8 := hr9; unfold mRoom mJn at hr8; rw [show mCnt (1, u) = 1 from rfl] at hr8; dsimp only at hr8; omega⟩⟩⟩
                                    · refine g_aload_n (q := 190) hx d_Mo_barred_189 rfl rfl ?_
                                      refine g_geta (q := 193) hx d_Mo_barred_190 rfl fl_Mo_16 hq.g0 (hq.p3 hP) (by first | exact Nat.succ_ne_zero _ | omega) ?_
                                      refine g_iload_n (q := 194) hx d_Mo_barred_193 rfl rfl ?_
                                      refine g_iald (q := 195) hx d_Mo_barred_194 rfl hq.g3 rfl (by omega) (by decide) q2 ?_
                                      refine g_bipush (q := 197) (v := nI 12) hx d_Mo_barred_195 rfl (by decide) ?_
                                      refine g_icmp_ne (q := 200) (t := 209) hx d_Mo_barred_197 rfl rfl (not_congr (nI_eq (by omega) (by omega))) (fun h197 => ?_) (fun h197 => ?_)
                                      · refine g_iconst (q := 210) (v := nI 0) hx d_Mo_barred_209 rfl (by decide) ?_
                                        exact g_iret hx d_Mo_barred_210 rfl hQ ⟨Nat.le_refl _, Nat.le_refl _⟩ ⟨_, rfl, rfl, rfl, rfl, Or.inr ⟨1, u, rfl, by omega, rfl, by omega, Or.inr (Or.inl ⟨rfl, by (try dsimp only); omega, by (try dsimp only); omega, by (try dsimp only); omega⟩), Or.inr ⟨rfl, by unfold mRoom mJn; rw [show mCnt (1, u) = 1 from rfl]; dsimp only; omega⟩⟩⟩
                                      · refine g_iload (q := 202) hx d_Mo_barred_200 rfl rfl ?_
                                        refine g_if_ne (q := 205) (t := 209) hx d_Mo_barred_202 rfl rfl (zb_ne0 (by omega)) (fun h202 => ?_) (fun h202 => ?_)
                                        · exact absurd h202 (by omega)
                                        · refine g_iconst (q := 206) (v := nI 2) hx d_Mo_barred_205 rfl (by decide) ?_
                                          refine g_goto (q := 210) hx d_Mo_barred_206 rfl ?_
                                          exact g_iret hx d_Mo_barred_210 rfl hQ ⟨Nat.le_refl _, Nat.le_refl _⟩ ⟨_, rfl, rfl, rfl, rfl, Or.inr ⟨1, u, rfl, by omega, rfl, by omega, Or.inr (Or.inl ⟨rfl, by (try dsimp only); omega, by (try dsimp only); omega, by (try dsimp only); omega⟩), Or.inl ⟨rfl, fun hr9 => by have hr8 := hr9; unfold mRoom mJn at hr8; rw [show mCnt (1, u) = 1 from rfl] at hr8; dsimp only at hr8; omega⟩⟩⟩
                                  · exact absurd h134 (by omega)
                                · exact absurd h122 (by omega)
                              · exact absurd h113 (by omega)
                            · refine g_iconst (q := 111) (v := nI 1) hx d_Mo_barred_110 rfl (by decide) ?_
                              exact g_iret hx d_Mo_barred_111 rfl hQ ⟨Nat.le_refl _, Nat.le_refl _⟩ ⟨_, rfl, rfl, rfl, rfl, Or.inl ⟨rfl, fun ⟨k9, u9, w1, w2, w3, w4, w5⟩ => mF_not (by omega) w1 w2 w3 w4 w5 (fun q => by unfold mFit at q; dsimp only at q; omega)⟩⟩
                      · exact absurd (by omega) h72
                · exact absurd h47 (by omega)
          · exact absurd h26 (by omega)
    · rcases pk_ix y (n := 4) (by omega) with hyn | hyb | ⟨u, hu, rfl⟩
      · refine g_aload_n (q := 1) hx d_Mo_barred_0 rfl rfl ?_
        refine g_geti (q := 4) hx d_Mo_barred_1 rfl fl_Mo_57 hq.g0 hR.1 ?_
        refine g_aload_n (q := 5) hx d_Mo_barred_4 rfl rfl ?_
        refine g_geta (q := 8) hx d_Mo_barred_5 rfl fl_Mo_13 hq.g0 (hq.p2 hP) (by first | exact Nat.succ_ne_zero _ | omega) ?_
        refine g_iload_n (q := 9) hx d_Mo_barred_8 rfl rfl ?_
        refine g_iald (q := 10) hx d_Mo_barred_9 rfl hq.g2 rfl (by omega) (by decide) q1 ?_
        refine g_isub (q := 11) hx d_Mo_barred_10 rfl (pk_sub (by omega)) ?_
        refine g_aload_n (q := 12) hx d_Mo_barred_11 rfl rfl ?_
        refine g_geta (q := 15) hx d_Mo_barred_12 rfl fl_Mo_22 hq.g0 (hq.p5 hP) (by first | exact Nat.succ_ne_zero _ | omega) ?_
        refine g_iload_n (q := 16) hx d_Mo_barred_15 rfl rfl ?_
        refine g_iald (q := 17) hx d_Mo_barred_16 rfl hq.g5 rfl (by omega) (by decide) q4 ?_
        refine g_isub (q := 18) hx d_Mo_barred_17 rfl (pk_sub (by omega)) ?_
        refine g_istore (q := 20) (lc' := [(4, _), (0, _), (1, _), (2, _), (3, _)]) hx d_Mo_barred_18 rfl (by decide) rfl ?_
        refine g_iload_n (q := 21) hx d_Mo_barred_20 rfl rfl ?_
        refine g_if_eq (q := 24) (t := 29) hx d_Mo_barred_21 rfl rfl (zb_eq0 (by omega)) (fun h21 => ?_) (fun h21 => ?_)
        · exact absurd h21 (by omega)
        · refine g_iload_n (q := 25) hx d_Mo_barred_24 rfl rfl ?_
          refine g_iconst (q := 26) (v := nI 3) hx d_Mo_barred_25 rfl (by decide) ?_
          refine g_icmp_ne (q := 29) (t := 33) hx d_Mo_barred_26 rfl rfl (not_congr (nI_eq (by omega) (by omega))) (fun h26 => ?_) (fun h26 => ?_)
          · refine g_iconst (q := 34) (v := nI 0) hx d_Mo_barred_33 rfl (by decide) ?_
            refine g_istore (q := 36) (lc' := [(5, _), (4, _), (0, _), (1, _), (2, _), (3, _)]) hx d_Mo_barred_34 rfl (by decide) rfl ?_
            refine g_iload_n (q := 37) hx d_Mo_barred_36 rfl rfl ?_
            refine g_if_lt (q := 40) (t := 75) hx d_Mo_barred_37 rfl rfl (zb_lt0 (by omega)) (fun h37 => ?_) (fun h37 => ?_)
            · exact h37.elim
            · refine g_iload_n (q := 41) hx d_Mo_barred_40 rfl rfl ?_
              refine g_iconst (q := 42) (v := nI 3) hx d_Mo_barred_41 rfl (by decide) ?_
              refine g_icmp_gt (q := 45) (t := 75) hx d_Mo_barred_42 rfl rfl (nI_ltI (by omega) (by omega)) (fun h42 => ?_) (fun h42 => ?_)
              · exact absurd h42 (by omega)
              · refine g_iload (q := 47) hx d_Mo_barred_45 rfl rfl ?_
                refine g_if_eq (q := 50) (t := 61) hx d_Mo_barred_47 rfl rfl (zb_eq0 (by omega)) (fun h47 => ?_) (fun h47 => ?_)
                · refine g_iload (q := 63) hx d_Mo_barred_61 rfl rfl ?_
                  refine g_if_ne (q := 66) (t := 77) hx d_Mo_barred_63 rfl rfl (zb_ne0 (by omega)) (fun h63 => ?_) (fun h63 => ?_)
                  · exact absurd h63 (by omega)
                  · refine g_iload_n (q := 67) hx d_Mo_barred_66 rfl rfl ?_
                    refine g_if_lt (q := 70) (t := 75) hx d_Mo_barred_67 rfl rfl Iff.rfl (fun h67 => ?_) (fun h67 => ?_)
                    · refine g_iconst (q := 76) (v := nI 1) hx d_Mo_barred_75 rfl (by decide) ?_
                      exact g_iret hx d_Mo_barred_76 rfl hQ ⟨Nat.le_refl _, Nat.le_refl _⟩ ⟨_, rfl, rfl, rfl, rfl, Or.inl ⟨rfl, fun ⟨k9, u9, w1, w2, w3, w4, w5⟩ => (nI_pos w1 (by rw [← w4]; exact hyn)).elim⟩⟩
                    · exact absurd hyn h67
                · exact absurd h47 (by omega)
          · exact absurd h26 (by omega)
      · refine g_aload_n (q := 1) hx d_Mo_barred_0 rfl rfl ?_
        refine g_geti (q := 4) hx d_Mo_barred_1 rfl fl_Mo_57 hq.g0 hR.1 ?_
        refine g_aload_n (q := 5) hx d_Mo_barred_4 rfl rfl ?_
        refine g_geta (q := 8) hx d_Mo_barred_5 rfl fl_Mo_13 hq.g0 (hq.p2 hP) (by first | exact Nat.succ_ne_zero _ | omega) ?_
        refine g_iload_n (q := 9) hx d_Mo_barred_8 rfl rfl ?_
        refine g_iald (q := 10) hx d_Mo_barred_9 rfl hq.g2 rfl (by omega) (by decide) q1 ?_
        refine g_isub (q := 11) hx d_Mo_barred_10 rfl (pk_sub (by omega)) ?_
        refine g_aload_n (q := 12) hx d_Mo_barred_11 rfl rfl ?_
        refine g_geta (q := 15) hx d_Mo_barred_12 rfl fl_Mo_22 hq.g0 (hq.p5 hP) (by first | exact Nat.succ_ne_zero _ | omega) ?_
        refine g_iload_n (q := 16) hx d_Mo_barred_15 rfl rfl ?_
        refine g_iald (q := 17) hx d_Mo_barred_16 rfl hq.g5 rfl (by omega) (by decide) q4 ?_
        refine g_isub (q := 18) hx d_Mo_barred_17 rfl (pk_sub (by omega)) ?_
        refine g_istore (q := 20) (lc' := [(4, _), (0, _), (1, _), (2, _), (3, _)]) hx d_Mo_barred_18 rfl (by decide) rfl ?_
        refine g_iload_n (q := 21) hx d_Mo_barred_20 rfl rfl ?_
        refine g_if_eq (q := 24) (t := 29) hx d_Mo_barred_21 rfl rfl (zb_eq0 (by omega)) (fun h21 => ?_) (fun h21 => ?_)
        · exact absurd h21 (by omega)
        · refine g_iload_n (q := 25) hx d_Mo_barred_24 rfl rfl ?_
          refine g_iconst (q := 26) (v := nI 3) hx d_Mo_barred_25 rfl (by decide) ?_
          refine g_icmp_ne (q := 29) (t := 33) hx d_Mo_barred_26 rfl rfl (not_congr (nI_eq (by omega) (by omega))) (fun h26 => ?_) (fun h26 => ?_)
          · refine g_iconst (q := 34) (v := nI 0) hx d_Mo_barred_33 rfl (by decide) ?_
            refine g_istore (q := 36) (lc' := [(5, _), (4, _), (0, _), (1, _), (2, _), (3, _)]) hx d_Mo_barred_34 rfl (by decide) rfl ?_
            refine g_iload_n (q := 37) hx d_Mo_barred_36 rfl rfl ?_
            refine g_if_lt (q := 40) (t := 75) hx d_Mo_barred_37 rfl rfl (zb_lt0 (by omega)) (fun h37 => ?_) (fun h37 => ?_)
            · exact h37.elim
            · refine g_iload_n (q := 41) hx d_Mo_barred_40 rfl rfl ?_
              refine g_iconst (q := 42) (v := nI 3) hx d_Mo_barred_41 rfl (by decide) ?_
              refine g_icmp_gt (q := 45) (t := 75) hx d_Mo_barred_42 rfl rfl (nI_ltI (by omega) (by omega)) (fun h42 => ?_) (fun h42 => ?_)
              · exact absurd h42 (by omega)
              · refine g_iload (q := 47) hx d_Mo_barred_45 rfl rfl ?_
                refine g_if_eq (q := 50) (t := 61) hx d_Mo_barred_47 rfl rfl (zb_eq0 (by omega)) (fun h47 => ?_) (fun h47 => ?_)
                · refine g_iload (q := 63) hx d_Mo_barred_61 rfl rfl ?_
                  refine g_if_ne (q := 66) (t := 77) hx d_Mo_barred_63 rfl rfl (zb_ne0 (by omega)) (fun h63 => ?_) (fun h63 => ?_)
                  · exact absurd h63 (by omega)
                  · refine g_iload_n (q := 67) hx d_Mo_barred_66 rfl rfl ?_
                    refine g_if_lt (q := 70) (t := 75) hx d_Mo_barred_67 rfl rfl Iff.rfl (fun h67 => ?_) (fun h67 => ?_)
                    · refine g_iconst (q := 76) (v := nI 1) hx d_Mo_barred_75 rfl (by decide) ?_
                      exact g_iret hx d_Mo_barred_76 rfl hQ ⟨Nat.le_refl _, Nat.le_refl _⟩ ⟨_, rfl, rfl, rfl, rfl, Or.inl ⟨rfl, fun ⟨k9, u9, w1, w2, w3, w4, w5⟩ => mF_big (N := 4) (by rw [← w4]; exact hyb) w1 (by omega) (nI_inj4 w2 w3 (by omega)) w5⟩⟩
                    · refine g_iload_n (q := 71) hx d_Mo_barred_70 rfl rfl ?_
                      refine g_iconst (q := 72) (v := nI 3) hx d_Mo_barred_71 rfl (by decide) ?_
                      refine g_icmp_le (q := 75) (t := 77) hx d_Mo_barred_72 rfl rfl Iff.rfl (fun h72 => ?_) (fun h72 => ?_)
                      · exact absurd h72 (i32_not_le (i32_lt_le ((nI_ltI (by omega) (by omega)).mpr (by omega)) hyb))
                      · refine g_iconst (q := 76) (v := nI 1) hx d_Mo_barred_75 rfl (by decide) ?_
                        exact g_iret hx d_Mo_barred_76 rfl hQ ⟨Nat.le_refl _, Nat.le_refl _⟩ ⟨_, rfl, rfl, rfl, rfl, Or.inl ⟨rfl, fun ⟨k9, u9, w1, w2, w3, w4, w5⟩ => mF_big (N := 4) (by rw [← w4]; exact hyb) w1 (by omega) (nI_inj4 w2 w3 (by omega)) w5⟩⟩
                · exact absurd h47 (by omega)
          · exact absurd h26 (by omega)
      · refine g_aload_n (q := 1) hx d_Mo_barred_0 rfl rfl ?_
        refine g_geti (q := 4) hx d_Mo_barred_1 rfl fl_Mo_57 hq.g0 hR.1 ?_
        refine g_aload_n (q := 5) hx d_Mo_barred_4 rfl rfl ?_
        refine g_geta (q := 8) hx d_Mo_barred_5 rfl fl_Mo_13 hq.g0 (hq.p2 hP) (by first | exact Nat.succ_ne_zero _ | omega) ?_
        refine g_iload_n (q := 9) hx d_Mo_barred_8 rfl rfl ?_
        refine g_iald (q := 10) hx d_Mo_barred_9 rfl hq.g2 rfl (by omega) (by decide) q1 ?_
        refine g_isub (q := 11) hx d_Mo_barred_10 rfl (pk_sub (by omega)) ?_
        refine g_aload_n (q := 12) hx d_Mo_barred_11 rfl rfl ?_
        refine g_geta (q := 15) hx d_Mo_barred_12 rfl fl_Mo_22 hq.g0 (hq.p5 hP) (by first | exact Nat.succ_ne_zero _ | omega) ?_
        refine g_iload_n (q := 16) hx d_Mo_barred_15 rfl rfl ?_
        refine g_iald (q := 17) hx d_Mo_barred_16 rfl hq.g5 rfl (by omega) (by decide) q4 ?_
        refine g_isub (q := 18) hx d_Mo_barred_17 rfl (pk_sub (by omega)) ?_
        refine g_istore (q := 20) (lc' := [(4, _), (0, _), (1, _), (2, _), (3, _)]) hx d_Mo_barred_18 rfl (by decide) rfl ?_
        refine g_iload_n (q := 21) hx d_Mo_barred_20 rfl rfl ?_
        refine g_if_eq (q := 24) (t := 29) hx d_Mo_barred_21 rfl rfl (zb_eq0 (by omega)) (fun h21 => ?_) (fun h21 => ?_)
        · exact absurd h21 (by omega)
        · refine g_iload_n (q := 25) hx d_Mo_barred_24 rfl rfl ?_
          refine g_iconst (q := 26) (v := nI 3) hx d_Mo_barred_25 rfl (by decide) ?_
          refine g_icmp_ne (q := 29) (t := 33) hx d_Mo_barred_26 rfl rfl (not_congr (nI_eq (by omega) (by omega))) (fun h26 => ?_) (fun h26 => ?_)
          · refine g_iconst (q := 34) (v := nI 0) hx d_Mo_barred_33 rfl (by decide) ?_
            refine g_istore (q := 36) (lc' := [(5, _), (4, _), (0, _), (1, _), (2, _), (3, _)]) hx d_Mo_barred_34 rfl (by decide) rfl ?_
            refine g_iload_n (q := 37) hx d_Mo_barred_36 rfl rfl ?_
            refine g_if_lt (q := 40) (t := 75) hx d_Mo_barred_37 rfl rfl (zb_lt0 (by omega)) (fun h37 => ?_) (fun h37 => ?_)
            · exact h37.elim
            · refine g_iload_n (q := 41) hx d_Mo_barred_40 rfl rfl ?_
              refine g_iconst (q := 42) (v := nI 3) hx d_Mo_barred_41 rfl (by decide) ?_
              refine g_icmp_gt (q := 45) (t := 75) hx d_Mo_barred_42 rfl rfl (nI_ltI (by omega) (by omega)) (fun h42 => ?_) (fun h42 => ?_)
              · exact absurd h42 (by omega)
              · refine g_iload (q := 47) hx d_Mo_barred_45 rfl rfl ?_
                refine g_if_eq (q := 50) (t := 61) hx d_Mo_barred_47 rfl rfl (zb_eq0 (by omega)) (fun h47 => ?_) (fun h47 => ?_)
                · refine g_iload (q := 63) hx d_Mo_barred_61 rfl rfl ?_
                  refine g_if_ne (q := 66) (t := 77) hx d_Mo_barred_63 rfl rfl (zb_ne0 (by omega)) (fun h63 => ?_) (fun h63 => ?_)
                  · exact absurd h63 (by omega)
                  · refine g_iload_n (q := 67) hx d_Mo_barred_66 rfl rfl ?_
                    refine g_if_lt (q := 70) (t := 75) hx d_Mo_barred_67 rfl rfl (zb_lt0 (by omega)) (fun h67 => ?_) (fun h67 => ?_)
                    · exact h67.elim
                    · refine g_iload_n (q := 71) hx d_Mo_barred_70 rfl rfl ?_
                      refine g_iconst (q := 72) (v := nI 3) hx d_Mo_barred_71 rfl (by decide) ?_
                      refine g_icmp_le (q := 75) (t := 77) hx d_Mo_barred_72 rfl rfl (nI_leI (by omega) (by omega)) (fun h72 => ?_) (fun h72 => ?_)
                      · refine g_iload_n (q := 78) hx d_Mo_barred_77 rfl rfl ?_
                        refine g_iconst (q := 79) (v := nI 1) hx d_Mo_barred_78 rfl (by decide) ?_
                        refine g_icmp_ne (q := 82) (t := 112) hx d_Mo_barred_79 rfl rfl (not_congr (nI_eq (by omega) (by omega))) (fun h79 => ?_) (fun h79 => ?_)
                        · refine g_iload_n (q := 113) hx d_Mo_barred_112 rfl rfl ?_
                          refine g_if_ne (q := 116) (t := 120) hx d_Mo_barred_113 rfl rfl (zb_ne0 (by omega)) (fun h113 => ?_) (fun h113 => ?_)
                          · refine g_iload_n (q := 121) hx d_Mo_barred_120 rfl rfl ?_
                            refine g_iconst (q := 122) (v := nI 3) hx d_Mo_barred_121 rfl (by decide) ?_
                            refine g_icmp_ne (q := 125) (t := 129) hx d_Mo_barred_122 rfl rfl (not_congr (nI_eq (by omega) (by omega))) (fun h122 => ?_) (fun h122 => ?_)
                            · refine g_iconst (q := 130) (v := nI 1) hx d_Mo_barred_129 rfl (by decide) ?_
                              refine g_istore (q := 132) (lc' := [(6, _), (5, _), (4, _), (0, _), (1, _), (2, _), (3, _)]) hx d_Mo_barred_130 rfl (by decide) rfl ?_
                              refine g_iload (q := 134) hx d_Mo_barred_132 rfl rfl ?_
                              refine g_if_eq (q := 137) (t := 172) hx d_Mo_barred_134 rfl rfl (zb_eq0 (by omega)) (fun h134 => ?_) (fun h134 => ?_)
                              · refine g_iconst (q := 173) (v := nI 0) hx d_Mo_barred_172 rfl (by decide) ?_
                                refine g_istore (q := 175) (lc' := [(7, _), (6, _), (5, _), (4, _), (0, _), (1, _), (2, _), (3, _)]) hx d_Mo_barred_173 rfl (by decide) rfl ?_
                                refine g_aload_n (q := 176) hx d_Mo_barred_175 rfl rfl ?_
                                refine g_geta (q := 179) hx d_Mo_barred_176 rfl fl_Mo_19 hq.g0 (hq.p4 hP) (by first | exact Nat.succ_ne_zero _ | omega) ?_
                                refine g_iload_n (q := 180) hx d_Mo_barred_179 rfl rfl ?_
                                refine g_iald (q := 181) hx d_Mo_barred_180 rfl hq.g4 rfl (by omega) (by decide) q3 ?_
                                refine g_iload (q := 183) hx d_Mo_barred_181 rfl rfl ?_
                                refine g_iadd (q := 184) hx d_Mo_barred_183 rfl (nI_add _ _) ?_
                                refine g_bipush (q := 186) (v := nI 20) hx d_Mo_barred_184 rfl (by decide) ?_
                                refine g_icmp_gt (q := 189) (t := 205) hx d_Mo_barred_186 rfl rfl (nI_ltI (by omega) (by omega)) (fun h186 => ?_) (fun h186 => ?_)
                                · refine g_iconst (q := 206) (v := nI 2) hx d_Mo_barred_205 rfl (by decide) ?_
                                  refine g_goto (q := 210) hx d_Mo_barred_206 rfl ?_
                                  exact g_iret hx d_Mo_barred_210 rfl hQ ⟨Nat.le_refl _, Nat.le_refl _⟩ ⟨_, rfl, rfl, rfl, rfl, Or.inr ⟨2, u, rfl, by omega, rfl, by omega, Or.inr (Or.inr ⟨rfl, by (try dsimp only); omega⟩), Or.inl ⟨rfl, fun hr9 => by have hr8 := hr9; unfold mRoom mJn at hr8; rw [show mCnt (2, u) = 1 from rfl] at hr8; dsimp only at hr8; omega⟩⟩⟩
                                · refine g_aload_n (q := 190) hx d_Mo_barred_189 rfl rfl ?_
                                  refine g_geta (q := 193) hx d_Mo_barred_190 rfl fl_Mo_16 hq.g0 (hq.p3 hP) (by first | exact Nat.succ_ne_zero _ | omega) ?_
                                  refine g_iload_n (q := 194) hx d_Mo_barred_193 rfl rfl ?_
                                  refine g_iald (q := 195) hx d_Mo_barred_194 rfl hq.g3 rfl (by omega) (by decide) q2 ?_
                                  refine g_bipush (q := 197) (v := nI 12) hx d_Mo_barred_195 rfl (by decide) ?_
                                  refine g_icmp_ne (q := 200) (t := 209) hx d_Mo_barred_197 rfl rfl (not_congr (nI_eq (by omega) (by omega))) (fun h197 => ?_) (fun h197 => ?_)
                                  · refine g_iconst (q := 210) (v := nI 0) hx d_Mo_barred_209 rfl (by decide) ?_
                                    exact g_iret hx d_Mo_barred_210 rfl hQ ⟨Nat.le_refl _, Nat.le_refl _⟩ ⟨_, rfl, rfl, rfl, rfl, Or.inr ⟨2, u, rfl, by omega, rfl, by omega, Or.inr (Or.inr ⟨rfl, by (try dsimp only); omega⟩), Or.inr ⟨rfl, by unfold mRoom mJn; rw [show mCnt (2, u) = 1 from rfl]; dsimp only; omega⟩⟩⟩
                                  · refine g_iload (q := 202) hx d_Mo_barred_200 rfl rfl ?_
                                    refine g_if_ne (q := 205) (t := 209) hx d_Mo_barred_202 rfl rfl (zb_ne0 (by omega)) (fun h202 => ?_) (fun h202 => ?_)
                                    · exact absurd h202 (by omega)
                                    · refine g_iconst (q := 206) (v := nI 2) hx d_Mo_barred_205 rfl (by decide) ?_
                                      refine g_goto (q := 210) hx d_Mo_barred_206 rfl ?_
                                      exact g_iret hx d_Mo_barred_210 rfl hQ ⟨Nat.le_refl _, Nat.le_refl _⟩ ⟨_, rfl, rfl, rfl, rfl, Or.inr ⟨2, u, rfl, by omega, rfl, by omega, Or.inr (Or.inr ⟨rfl, by (try dsimp only); omega⟩), Or.inl ⟨rfl, fun hr9 => by have hr8 := hr9; unfold mRoom mJn at hr8; rw [show mCnt (2, u) = 1 from rfl] at hr8; dsimp only at hr8; omega⟩⟩⟩
                              · exact absurd h134 (by omega)
                            · exact absurd h122 (by omega)
                          · exact absurd h113 (by omega)
                        · exact absurd h79 (by omega)
                      · exact absurd (by omega) h72
                · exact absurd h47 (by omega)
          · exact absurd h26 (by omega)
    · rcases pk_ix y (n := len - rd.1 - mPs rd.2 + 1) (by omega) with hyn | hyb | ⟨u, hu, rfl⟩
      · refine g_aload_n (q := 1) hx d_Mo_barred_0 rfl rfl ?_
        refine g_geti (q := 4) hx d_Mo_barred_1 rfl fl_Mo_57 hq.g0 hR.1 ?_
        refine g_aload_n (q := 5) hx d_Mo_barred_4 rfl rfl ?_
        refine g_geta (q := 8) hx d_Mo_barred_5 rfl fl_Mo_13 hq.g0 (hq.p2 hP) (by first | exact Nat.succ_ne_zero _ | omega) ?_
        refine g_iload_n (q := 9) hx d_Mo_barred_8 rfl rfl ?_
        refine g_iald (q := 10) hx d_Mo_barred_9 rfl hq.g2 rfl (by omega) (by decide) q1 ?_
        refine g_isub (q := 11) hx d_Mo_barred_10 rfl (pk_sub (by omega)) ?_
        refine g_aload_n (q := 12) hx d_Mo_barred_11 rfl rfl ?_
        refine g_geta (q := 15) hx d_Mo_barred_12 rfl fl_Mo_22 hq.g0 (hq.p5 hP) (by first | exact Nat.succ_ne_zero _ | omega) ?_
        refine g_iload_n (q := 16) hx d_Mo_barred_15 rfl rfl ?_
        refine g_iald (q := 17) hx d_Mo_barred_16 rfl hq.g5 rfl (by omega) (by decide) q4 ?_
        refine g_isub (q := 18) hx d_Mo_barred_17 rfl (pk_sub (by omega)) ?_
        refine g_istore (q := 20) (lc' := [(4, _), (0, _), (1, _), (2, _), (3, _)]) hx d_Mo_barred_18 rfl (by decide) rfl ?_
        refine g_iload_n (q := 21) hx d_Mo_barred_20 rfl rfl ?_
        refine g_if_eq (q := 24) (t := 29) hx d_Mo_barred_21 rfl rfl (zb_eq0 (by omega)) (fun h21 => ?_) (fun h21 => ?_)
        · exact absurd h21 (by omega)
        · refine g_iload_n (q := 25) hx d_Mo_barred_24 rfl rfl ?_
          refine g_iconst (q := 26) (v := nI 3) hx d_Mo_barred_25 rfl (by decide) ?_
          refine g_icmp_ne (q := 29) (t := 33) hx d_Mo_barred_26 rfl rfl (not_congr (nI_eq (by omega) (by omega))) (fun h26 => ?_) (fun h26 => ?_)
          · exact absurd h26 (by omega)
          · refine g_iconst (q := 30) (v := nI 1) hx d_Mo_barred_29 rfl (by decide) ?_
            refine g_goto (q := 34) hx d_Mo_barred_30 rfl ?_
            refine g_istore (q := 36) (lc' := [(5, _), (4, _), (0, _), (1, _), (2, _), (3, _)]) hx d_Mo_barred_34 rfl (by decide) rfl ?_
            refine g_iload_n (q := 37) hx d_Mo_barred_36 rfl rfl ?_
            refine g_if_lt (q := 40) (t := 75) hx d_Mo_barred_37 rfl rfl (zb_lt0 (by omega)) (fun h37 => ?_) (fun h37 => ?_)
            · exact h37.elim
            · refine g_iload_n (q := 41) hx d_Mo_barred_40 rfl rfl ?_
              refine g_iconst (q := 42) (v := nI 3) hx d_Mo_barred_41 rfl (by decide) ?_
              refine g_icmp_gt (q := 45) (t := 75) hx d_Mo_barred_42 rfl rfl (nI_ltI (by omega) (by omega)) (fun h42 => ?_) (fun h42 => ?_)
              · exact absurd h42 (by omega)
              · refine g_iload (q := 47) hx d_Mo_barred_45 rfl rfl ?_
                refine g_if_eq (q := 50) (t := 61) hx d_Mo_barred_47 rfl rfl (zb_eq0 (by omega)) (fun h47 => ?_) (fun h47 => ?_)
                · exact absurd h47 (by omega)
                · refine g_iload_n (q := 51) hx d_Mo_barred_50 rfl rfl ?_
                  refine g_iconst (q := 52) (v := nI 1) hx d_Mo_barred_51 rfl (by decide) ?_
                  refine g_icmp_lt (q := 55) (t := 75) hx d_Mo_barred_52 rfl rfl Iff.rfl (fun h52 => ?_) (fun h52 => ?_)
                  · refine g_iconst (q := 76) (v := nI 1) hx d_Mo_barred_75 rfl (by decide) ?_
                    exact g_iret hx d_Mo_barred_76 rfl hQ ⟨Nat.le_refl _, Nat.le_refl _⟩ ⟨_, rfl, rfl, rfl, rfl, Or.inl ⟨rfl, fun ⟨k9, u9, w1, w2, w3, w4, w5⟩ => (nI_pos w1 (by rw [← w4]; exact hyn)).elim⟩⟩
                  · exact absurd (i32_lt_trans hyn (by decide)) h52
      · refine g_aload_n (q := 1) hx d_Mo_barred_0 rfl rfl ?_
        refine g_geti (q := 4) hx d_Mo_barred_1 rfl fl_Mo_57 hq.g0 hR.1 ?_
        refine g_aload_n (q := 5) hx d_Mo_barred_4 rfl rfl ?_
        refine g_geta (q := 8) hx d_Mo_barred_5 rfl fl_Mo_13 hq.g0 (hq.p2 hP) (by first | exact Nat.succ_ne_zero _ | omega) ?_
        refine g_iload_n (q := 9) hx d_Mo_barred_8 rfl rfl ?_
        refine g_iald (q := 10) hx d_Mo_barred_9 rfl hq.g2 rfl (by omega) (by decide) q1 ?_
        refine g_isub (q := 11) hx d_Mo_barred_10 rfl (pk_sub (by omega)) ?_
        refine g_aload_n (q := 12) hx d_Mo_barred_11 rfl rfl ?_
        refine g_geta (q := 15) hx d_Mo_barred_12 rfl fl_Mo_22 hq.g0 (hq.p5 hP) (by first | exact Nat.succ_ne_zero _ | omega) ?_
        refine g_iload_n (q := 16) hx d_Mo_barred_15 rfl rfl ?_
        refine g_iald (q := 17) hx d_Mo_barred_16 rfl hq.g5 rfl (by omega) (by decide) q4 ?_
        refine g_isub (q := 18) hx d_Mo_barred_17 rfl (pk_sub (by omega)) ?_
        refine g_istore (q := 20) (lc' := [(4, _), (0, _), (1, _), (2, _), (3, _)]) hx d_Mo_barred_18 rfl (by decide) rfl ?_
        refine g_iload_n (q := 21) hx d_Mo_barred_20 rfl rfl ?_
        refine g_if_eq (q := 24) (t := 29) hx d_Mo_barred_21 rfl rfl (zb_eq0 (by omega)) (fun h21 => ?_) (fun h21 => ?_)
        · exact absurd h21 (by omega)
        · refine g_iload_n (q := 25) hx d_Mo_barred_24 rfl rfl ?_
          refine g_iconst (q := 26) (v := nI 3) hx d_Mo_barred_25 rfl (by decide) ?_
          refine g_icmp_ne (q := 29) (t := 33) hx d_Mo_barred_26 rfl rfl (not_congr (nI_eq (by omega) (by omega))) (fun h26 => ?_) (fun h26 => ?_)
          · exact absurd h26 (by omega)
          · refine g_iconst (q := 30) (v := nI 1) hx d_Mo_barred_29 rfl (by decide) ?_
            refine g_goto (q := 34) hx d_Mo_barred_30 rfl ?_
            refine g_istore (q := 36) (lc' := [(5, _), (4, _), (0, _), (1, _), (2, _), (3, _)]) hx d_Mo_barred_34 rfl (by decide) rfl ?_
            refine g_iload_n (q := 37) hx d_Mo_barred_36 rfl rfl ?_
            refine g_if_lt (q := 40) (t := 75) hx d_Mo_barred_37 rfl rfl (zb_lt0 (by omega)) (fun h37 => ?_) (fun h37 => ?_)
            · exact h37.elim
            · refine g_iload_n (q := 41) hx d_Mo_barred_40 rfl rfl ?_
              refine g_iconst (q := 42) (v := nI 3) hx d_Mo_barred_41 rfl (by decide) ?_
              refine g_icmp_gt (q := 45) (t := 75) hx d_Mo_barred_42 rfl rfl (nI_ltI (by omega) (by omega)) (fun h42 => ?_) (fun h42 => ?_)
              · exact absurd h42 (by omega)
              · refine g_iload (q := 47) hx d_Mo_barred_45 rfl rfl ?_
                refine g_if_eq (q := 50) (t := 61) hx d_Mo_barred_47 rfl rfl (zb_eq0 (by omega)) (fun h47 => ?_) (fun h47 => ?_)
                · exact absurd h47 (by omega)
                · refine g_iload_n (q := 51) hx d_Mo_barred_50 rfl rfl ?_
                  refine g_iconst (q := 52) (v := nI 1) hx d_Mo_barred_51 rfl (by decide) ?_
                  refine g_icmp_lt (q := 55) (t := 75) hx d_Mo_barred_52 rfl rfl Iff.rfl (fun h52 => ?_) (fun h52 => ?_)
                  · refine g_iconst (q := 76) (v := nI 1) hx d_Mo_barred_75 rfl (by decide) ?_
                    exact g_iret hx d_Mo_barred_76 rfl hQ ⟨Nat.le_refl _, Nat.le_refl _⟩ ⟨_, rfl, rfl, rfl, rfl, Or.inl ⟨rfl, fun ⟨k9, u9, w1, w2, w3, w4, w5⟩ => mF_big (N := len - rd.1 - mPs rd.2 + 1) (by rw [← w4]; exact hyb) w1 (by omega) (nI_inj4 w2 w3 (by omega)) w5⟩⟩
                  · refine g_iload_n (q := 56) hx d_Mo_barred_55 rfl rfl ?_
                    refine g_iload (q := 58) hx d_Mo_barred_56 rfl rfl ?_
                    refine g_icmp_gt (q := 61) (t := 75) hx d_Mo_barred_58 rfl rfl Iff.rfl (fun h58 => ?_) (fun h58 => ?_)
                    · refine g_iconst (q := 76) (v := nI 1) hx d_Mo_barred_75 rfl (by decide) ?_
                      exact g_iret hx d_Mo_barred_76 rfl hQ ⟨Nat.le_refl _, Nat.le_refl _⟩ ⟨_, rfl, rfl, rfl, rfl, Or.inl ⟨rfl, fun ⟨k9, u9, w1, w2, w3, w4, w5⟩ => mF_big (N := len - rd.1 - mPs rd.2 + 1) (by rw [← w4]; exact hyb) w1 (by omega) (nI_inj4 w2 w3 (by omega)) w5⟩⟩
                    · exact absurd (i32_lt_le ((nI_ltI (by omega) (by omega)).mpr (by omega)) hyb) h58
      · refine g_aload_n (q := 1) hx d_Mo_barred_0 rfl rfl ?_
        refine g_geti (q := 4) hx d_Mo_barred_1 rfl fl_Mo_57 hq.g0 hR.1 ?_
        refine g_aload_n (q := 5) hx d_Mo_barred_4 rfl rfl ?_
        refine g_geta (q := 8) hx d_Mo_barred_5 rfl fl_Mo_13 hq.g0 (hq.p2 hP) (by first | exact Nat.succ_ne_zero _ | omega) ?_
        refine g_iload_n (q := 9) hx d_Mo_barred_8 rfl rfl ?_
        refine g_iald (q := 10) hx d_Mo_barred_9 rfl hq.g2 rfl (by omega) (by decide) q1 ?_
        refine g_isub (q := 11) hx d_Mo_barred_10 rfl (pk_sub (by omega)) ?_
        refine g_aload_n (q := 12) hx d_Mo_barred_11 rfl rfl ?_
        refine g_geta (q := 15) hx d_Mo_barred_12 rfl fl_Mo_22 hq.g0 (hq.p5 hP) (by first | exact Nat.succ_ne_zero _ | omega) ?_
        refine g_iload_n (q := 16) hx d_Mo_barred_15 rfl rfl ?_
        refine g_iald (q := 17) hx d_Mo_barred_16 rfl hq.g5 rfl (by omega) (by decide) q4 ?_
        refine g_isub (q := 18) hx d_Mo_barred_17 rfl (pk_sub (by omega)) ?_
        refine g_istore (q := 20) (lc' := [(4, _), (0, _), (1, _), (2, _), (3, _)]) hx d_Mo_barred_18 rfl (by decide) rfl ?_
        refine g_iload_n (q := 21) hx d_Mo_barred_20 rfl rfl ?_
        refine g_if_eq (q := 24) (t := 29) hx d_Mo_barred_21 rfl rfl (zb_eq0 (by omega)) (fun h21 => ?_) (fun h21 => ?_)
        · exact absurd h21 (by omega)
        · refine g_iload_n (q := 25) hx d_Mo_barred_24 rfl rfl ?_
          refine g_iconst (q := 26) (v := nI 3) hx d_Mo_barred_25 rfl (by decide) ?_
          refine g_icmp_ne (q := 29) (t := 33) hx d_Mo_barred_26 rfl rfl (not_congr (nI_eq (by omega) (by omega))) (fun h26 => ?_) (fun h26 => ?_)
          · exact absurd h26 (by omega)
          · refine g_iconst (q := 30) (v := nI 1) hx d_Mo_barred_29 rfl (by decide) ?_
            refine g_goto (q := 34) hx d_Mo_barred_30 rfl ?_
            refine g_istore (q := 36) (lc' := [(5, _), (4, _), (0, _), (1, _), (2, _), (3, _)]) hx d_Mo_barred_34 rfl (by decide) rfl ?_
            refine g_iload_n (q := 37) hx d_Mo_barred_36 rfl rfl ?_
            refine g_if_lt (q := 40) (t := 75) hx d_Mo_barred_37 rfl rfl (zb_lt0 (by omega)) (fun h37 => ?_) (fun h37 => ?_)
            · exact h37.elim
            · refine g_iload_n (q := 41) hx d_Mo_barred_40 rfl rfl ?_
              refine g_iconst (q := 42) (v := nI 3) hx d_Mo_barred_41 rfl (by decide) ?_
              refine g_icmp_gt (q := 45) (t := 75) hx d_Mo_barred_42 rfl rfl (nI_ltI (by omega) (by omega)) (fun h42 => ?_) (fun h42 => ?_)
              · exact absurd h42 (by omega)
              · refine g_iload (q := 47) hx d_Mo_barred_45 rfl rfl ?_
                refine g_if_eq (q := 50) (t := 61) hx d_Mo_barred_47 rfl rfl (zb_eq0 (by omega)) (fun h47 => ?_) (fun h47 => ?_)
                · exact absurd h47 (by omega)
                · refine g_iload_n (q := 51) hx d_Mo_barred_50 rfl rfl ?_
                  refine g_iconst (q := 52) (v := nI 1) hx d_Mo_barred_51 rfl (by decide) ?_
                  refine g_icmp_lt (q := 55) (t := 75) hx d_Mo_barred_52 rfl rfl (nI_ltI (by omega) (by omega)) (fun h52 => ?_) (fun h52 => ?_)
                  · refine g_iconst (q := 76) (v := nI 1) hx d_Mo_barred_75 rfl (by decide) ?_
                    exact g_iret hx d_Mo_barred_76 rfl hQ ⟨Nat.le_refl _, Nat.le_refl _⟩ ⟨_, rfl, rfl, rfl, rfl, Or.inl ⟨rfl, fun ⟨k9, u9, w1, w2, w3, w4, w5⟩ => mF_not (by omega) w1 w2 w3 w4 w5 (fun q => by unfold mFit at q; dsimp only at q; omega)⟩⟩
                  · refine g_iload_n (q := 56) hx d_Mo_barred_55 rfl rfl ?_
                    refine g_iload (q := 58) hx d_Mo_barred_56 rfl rfl ?_
                    refine g_icmp_gt (q := 61) (t := 75) hx d_Mo_barred_58 rfl rfl (nI_ltI (by omega) (by omega)) (fun h58 => ?_) (fun h58 => ?_)
                    · exact absurd h58 (by omega)
                    · refine g_iload (q := 63) hx d_Mo_barred_61 rfl rfl ?_
                      refine g_if_ne (q := 66) (t := 77) hx d_Mo_barred_63 rfl rfl (zb_ne0 (by omega)) (fun h63 => ?_) (fun h63 => ?_)
                      · refine g_iload_n (q := 78) hx d_Mo_barred_77 rfl rfl ?_
                        refine g_iconst (q := 79) (v := nI 1) hx d_Mo_barred_78 rfl (by decide) ?_
                        refine g_icmp_ne (q := 82) (t := 112) hx d_Mo_barred_79 rfl rfl (not_congr (nI_eq (by omega) (by omega))) (fun h79 => ?_) (fun h79 => ?_)
                        · refine g_iload_n (q := 113) hx d_Mo_barred_112 rfl rfl ?_
                          refine g_if_ne (q := 116) (t := 120) hx d_Mo_barred_113 rfl rfl (zb_ne0 (by omega)) (fun h113 => ?_) (fun h113 => ?_)
                          · refine g_iload_n (q := 121) hx d_Mo_barred_120 rfl rfl ?_
                            refine g_iconst (q := 122) (v := nI 3) hx d_Mo_barred_121 rfl (by decide) ?_
                            refine g_icmp_ne (q := 125) (t := 129) hx d_Mo_barred_122 rfl rfl (not_congr (nI_eq (by omega) (by omega))) (fun h122 => ?_) (fun h122 => ?_)
                            · exact absurd h122 (by omega)
                            · refine g_iconst (q := 126) (v := nI 0) hx d_Mo_barred_125 rfl (by decide) ?_
                              refine g_goto (q := 130) hx d_Mo_barred_126 rfl ?_
                              refine g_istore (q := 132) (lc' := [(6, _), (5, _), (4, _), (0, _), (1, _), (2, _), (3, _)]) hx d_Mo_barred_130 rfl (by decide) rfl ?_
                              refine g_iload (q := 134) hx d_Mo_barred_132 rfl rfl ?_
                              refine g_if_eq (q := 137) (t := 172) hx d_Mo_barred_134 rfl rfl (zb_eq0 (by omega)) (fun h134 => ?_) (fun h134 => ?_)
                              · exact absurd h134 (by omega)
                              · refine g_aload_n (q := 138) hx d_Mo_barred_137 rfl rfl ?_
                                refine g_geta (q := 141) hx d_Mo_barred_138 rfl fl_Mo_16 hq.g0 (hq.p3 hP) (by first | exact Nat.succ_ne_zero _ | omega) ?_
                                refine g_iload_n (q := 142) hx d_Mo_barred_141 rfl rfl ?_
                                refine g_iald (q := 143) hx d_Mo_barred_142 rfl hq.g3 rfl (by omega) (by decide) q2 ?_
                                refine g_if_le (q := 146) (t := 172) hx d_Mo_barred_143 rfl rfl (zb_le0 (by omega)) (fun h143 => ?_) (fun h143 => ?_)
                                · refine g_iconst (q := 173) (v := nI 0) hx d_Mo_barred_172 rfl (by decide) ?_
                                  refine g_istore (q := 175) (lc' := [(7, _), (6, _), (5, _), (4, _), (0, _), (1, _), (2, _), (3, _)]) hx d_Mo_barred_173 rfl (by decide) rfl ?_
                                  refine g_aload_n (q := 176) hx d_Mo_barred_175 rfl rfl ?_
                                  refine g_geta (q := 179) hx d_Mo_barred_176 rfl fl_Mo_19 hq.g0 (hq.p4 hP) (by first | exact Nat.succ_ne_zero _ | omega) ?_
                                  refine g_iload_n (q := 180) hx d_Mo_barred_179 rfl rfl ?_
                                  refine g_iald (q := 181) hx d_Mo_barred_180 rfl hq.g4 rfl (by omega) (by decide) q3 ?_
                                  refine g_iload (q := 183) hx d_Mo_barred_181 rfl rfl ?_
                                  refine g_iadd (q := 184) hx d_Mo_barred_183 rfl (nI_add _ _) ?_
                                  refine g_bipush (q := 186) (v := nI 20) hx d_Mo_barred_184 rfl (by decide) ?_
                                  refine g_icmp_gt (q := 189) (t := 205) hx d_Mo_barred_186 rfl rfl (nI_ltI (by omega) (by omega)) (fun h186 => ?_) (fun h186 => ?_)
                                  · refine g_iconst (q := 206) (v := nI 2) hx d_Mo_barred_205 rfl (by decide) ?_
                                    refine g_goto (q := 210) hx d_Mo_barred_206 rfl ?_
                                    exact g_iret hx d_Mo_barred_210 rfl hQ ⟨Nat.le_refl _, Nat.le_refl _⟩ ⟨_, rfl, rfl, rfl, rfl, Or.inr ⟨3, u, rfl, by omega, rfl, by omega, Or.inl ⟨Or.inr rfl, by (try dsimp only); omega, by (try dsimp only); omega⟩, Or.inl ⟨rfl, fun hr9 => by have hr8 := hr9; unfold mRoom mJn at hr8; rw [show mCnt (3, u) = 0 from rfl] at hr8; dsimp only at hr8; omega⟩⟩⟩
                                  · refine g_aload_n (q := 190) hx d_Mo_barred_189 rfl rfl ?_
                                    refine g_geta (q := 193) hx d_Mo_barred_190 rfl fl_Mo_16 hq.g0 (hq.p3 hP) (by first | exact Nat.succ_ne_zero _ | omega) ?_
                                    refine g_iload_n (q := 194) hx d_Mo_barred_193 rfl rfl ?_
                                    refine g_iald (q := 195) hx d_Mo_barred_194 rfl hq.g3 rfl (by omega) (by decide) q2 ?_
                                    refine g_bipush (q := 197) (v := nI 12) hx d_Mo_barred_195 rfl (by decide) ?_
                                    refine g_icmp_ne (q := 200) (t := 209) hx d_Mo_barred_197 rfl rfl (not_congr (nI_eq (by omega) (by omega))) (fun h197 => ?_) (fun h197 => ?_)
                                    · refine g_iconst (q := 210) (v := nI 0) hx d_Mo_barred_209 rfl (by decide) ?_
                                      exact g_iret hx d_Mo_barred_210 rfl hQ ⟨Nat.le_refl _, Nat.le_refl _⟩ ⟨_, rfl, rfl, rfl, rfl, Or.inr ⟨3, u, rfl, by omega, rfl, by omega, Or.inl ⟨Or.inr rfl, by (try dsimp only); omega, by (try dsimp only); omega⟩, Or.inr ⟨rfl, by unfold mRoom mJn; rw [show mCnt (3, u) = 0 from rfl]; dsimp only; omega⟩⟩⟩
                                    · refine g_iload (q := 202) hx d_Mo_barred_200 rfl rfl ?_
                                      refine g_if_ne (q := 205) (t := 209) hx d_Mo_barred_202 rfl rfl (zb_ne0 (by omega)) (fun h202 => ?_) (fun h202 => ?_)
                                      · exact absurd h202 (by omega)
                                      · refine g_iconst (q := 206) (v := nI 2) hx d_Mo_barred_205 rfl (by decide) ?_
                                        refine g_goto (q := 210) hx d_Mo_barred_206 rfl ?_
                                        exact g_iret hx d_Mo_barred_210 rfl hQ ⟨Nat.le_refl _, Nat.le_refl _⟩ ⟨_, rfl, rfl, rfl, rfl, Or.inr ⟨3, u, rfl, by omega, rfl, by omega, Or.inl ⟨Or.inr rfl, by (try dsimp only); omega, by (try dsimp only); omega⟩, Or.inl ⟨rfl, fun hr9 => by have hr8 := hr9; unfold mRoom mJn at hr8; rw [show mCnt (3, u) = 0 from rfl] at hr8; dsimp only at hr8; omega⟩⟩⟩
                                · refine g_aload_n (q := 147) hx d_Mo_barred_146 rfl rfl ?_
                                  refine g_geta (q := 150) hx d_Mo_barred_147 rfl fl_Mo_25 hq.g0 (hq.p6 hP) (by first | exact Nat.succ_ne_zero _ | omega) ?_
                                  refine g_bipush (q := 152) (v := nI 12) hx d_Mo_barred_150 rfl (by decide) ?_
                                  refine g_iload_n (q := 153) hx d_Mo_barred_152 rfl rfl ?_
                                  refine g_imul (q := 154) hx d_Mo_barred_153 rfl (pk_mul _ _) ?_
                                  refine g_aload_n (q := 155) hx d_Mo_barred_154 rfl rfl ?_
                                  refine g_geta (q := 158) hx d_Mo_barred_155 rfl fl_Mo_16 hq.g0 (hq.p3 hP) (by first | exact Nat.succ_ne_zero _ | omega) ?_
                                  refine g_iload_n (q := 159) hx d_Mo_barred_158 rfl rfl ?_
                                  refine g_iald (q := 160) hx d_Mo_barred_159 rfl hq.g3 rfl (by omega) (by decide) q2 ?_
                                  refine g_iadd (q := 161) hx d_Mo_barred_160 rfl (nI_add _ _) ?_
                                  refine g_iconst (q := 162) (v := nI 1) hx d_Mo_barred_161 rfl (by decide) ?_
                                  refine g_isub (q := 163) hx d_Mo_barred_162 rfl (pk_sub (by omega)) ?_
                                  refine g_iald (q := 164) hx d_Mo_barred_163 rfl hq.g6 (congrArg nI (by omega : 12 * r + rd.2.length - 1 = 12 * r + (rd.2.length - 1))) (by omega) (by decide) (q5b (by omega)) ?_
                                  refine g_iload_n (q := 165) hx d_Mo_barred_164 rfl rfl ?_
                                  refine g_icmp_ne (q := 168) (t := 172) hx d_Mo_barred_165 rfl rfl (not_congr (nI_eq (by omega) (by omega))) (fun h165 => ?_) (fun h165 => ?_)
                                  · refine g_iconst (q := 173) (v := nI 0) hx d_Mo_barred_172 rfl (by decide) ?_
                                    refine g_istore (q := 175) (lc' := [(7, _), (6, _), (5, _), (4, _), (0, _), (1, _), (2, _), (3, _)]) hx d_Mo_barred_173 rfl (by decide) rfl ?_
                                    refine g_aload_n (q := 176) hx d_Mo_barred_175 rfl rfl ?_
                                    refine g_geta (q := 179) hx d_Mo_barred_176 rfl fl_Mo_19 hq.g0 (hq.p4 hP) (by first | exact Nat.succ_ne_zero _ | omega) ?_
                                    refine g_iload_n (q := 180) hx d_Mo_barred_179 rfl rfl ?_
                                    refine g_iald (q := 181) hx d_Mo_barred_180 rfl hq.g4 rfl (by omega) (by decide) q3 ?_
                                    refine g_iload (q := 183) hx d_Mo_barred_181 rfl rfl ?_
                                    refine g_iadd (q := 184) hx d_Mo_barred_183 rfl (nI_add _ _) ?_
                                    refine g_bipush (q := 186) (v := nI 20) hx d_Mo_barred_184 rfl (by decide) ?_
                                    refine g_icmp_gt (q := 189) (t := 205) hx d_Mo_barred_186 rfl rfl (nI_ltI (by omega) (by omega)) (fun h186 => ?_) (fun h186 => ?_)
                                    · refine g_iconst (q := 206) (v := nI 2) hx d_Mo_barred_205 rfl (by decide) ?_
                                      refine g_goto (q := 210) hx d_Mo_barred_206 rfl ?_
                                      exact g_iret hx d_Mo_barred_210 rfl hQ ⟨Nat.le_refl _, Nat.le_refl _⟩ ⟨_, rfl, rfl, rfl, rfl, Or.inr ⟨3, u, rfl, by omega, rfl, by omega, Or.inl ⟨Or.inr rfl, by (try dsimp only); omega, by (try dsimp only); omega⟩, Or.inl ⟨rfl, fun hr9 => by have hr8 := hr9; unfold mRoom mJn at hr8; rw [show mCnt (3, u) = 0 from rfl] at hr8; dsimp only at hr8; omega⟩⟩⟩
                                    · refine g_aload_n (q := 190) hx d_Mo_barred_189 rfl rfl ?_
                                      refine g_geta (q := 193) hx d_Mo_barred_190 rfl fl_Mo_16 hq.g0 (hq.p3 hP) (by first | exact Nat.succ_ne_zero _ | omega) ?_
                                      refine g_iload_n (q := 194) hx d_Mo_barred_193 rfl rfl ?_
                                      refine g_iald (q := 195) hx d_Mo_barred_194 rfl hq.g3 rfl (by omega) (by decide) q2 ?_
                                      refine g_bipush (q := 197) (v := nI 12) hx d_Mo_barred_195 rfl (by decide) ?_
                                      refine g_icmp_ne (q := 200) (t := 209) hx d_Mo_barred_197 rfl rfl (not_congr (nI_eq (by omega) (by omega))) (fun h197 => ?_) (fun h197 => ?_)
                                      · refine g_iconst (q := 210) (v := nI 0) hx d_Mo_barred_209 rfl (by decide) ?_
                                        exact g_iret hx d_Mo_barred_210 rfl hQ ⟨Nat.le_refl _, Nat.le_refl _⟩ ⟨_, rfl, rfl, rfl, rfl, Or.inr ⟨3, u, rfl, by omega, rfl, by omega, Or.inl ⟨Or.inr rfl, by (try dsimp only); omega, by (try dsimp only); omega⟩, Or.inr ⟨rfl, by unfold mRoom mJn; rw [show mCnt (3, u) = 0 from rfl]; dsimp only; omega⟩⟩⟩
                                      · refine g_iload (q := 202) hx d_Mo_barred_200 rfl rfl ?_
                                        refine g_if_ne (q := 205) (t := 209) hx d_Mo_barred_202 rfl rfl (zb_ne0 (by omega)) (fun h202 => ?_) (fun h202 => ?_)
                                        · exact absurd h202 (by omega)
                                        · refine g_iconst (q := 206) (v := nI 2) hx d_Mo_barred_205 rfl (by decide) ?_
                                          refine g_goto (q := 210) hx d_Mo_barred_206 rfl ?_
                                          exact g_iret hx d_Mo_barred_210 rfl hQ ⟨Nat.le_refl _, Nat.le_refl _⟩ ⟨_, rfl, rfl, rfl, rfl, Or.inr ⟨3, u, rfl, by omega, rfl, by omega, Or.inl ⟨Or.inr rfl, by (try dsimp only); omega, by (try dsimp only); omega⟩, Or.inl ⟨rfl, fun hr9 => by have hr8 := hr9; unfold mRoom mJn at hr8; rw [show mCnt (3, u) = 0 from rfl] at hr8; dsimp only at hr8; omega⟩⟩⟩
                                  · refine g_iconst (q := 169) (v := nI 1) hx d_Mo_barred_168 rfl (by decide) ?_
                                    refine g_goto (q := 173) hx d_Mo_barred_169 rfl ?_
                                    refine g_istore (q := 175) (lc' := [(7, _), (6, _), (5, _), (4, _), (0, _), (1, _), (2, _), (3, _)]) hx d_Mo_barred_173 rfl (by decide) rfl ?_
                                    refine g_aload_n (q := 176) hx d_Mo_barred_175 rfl rfl ?_
                                    refine g_geta (q := 179) hx d_Mo_barred_176 rfl fl_Mo_19 hq.g0 (hq.p4 hP) (by first | exact Nat.succ_ne_zero _ | omega) ?_
                                    refine g_iload_n (q := 180) hx d_Mo_barred_179 rfl rfl ?_
                                    refine g_iald (q := 181) hx d_Mo_barred_180 rfl hq.g4 rfl (by omega) (by decide) q3 ?_
                                    refine g_iload (q := 183) hx d_Mo_barred_181 rfl rfl ?_
                                    refine g_iadd (q := 184) hx d_Mo_barred_183 rfl (nI_add _ _) ?_
                                    refine g_bipush (q := 186) (v := nI 20) hx d_Mo_barred_184 rfl (by decide) ?_
                                    refine g_icmp_gt (q := 189) (t := 205) hx d_Mo_barred_186 rfl rfl (nI_ltI (by omega) (by omega)) (fun h186 => ?_) (fun h186 => ?_)
                                    · refine g_iconst (q := 206) (v := nI 2) hx d_Mo_barred_205 rfl (by decide) ?_
                                      refine g_goto (q := 210) hx d_Mo_barred_206 rfl ?_
                                      exact g_iret hx d_Mo_barred_210 rfl hQ ⟨Nat.le_refl _, Nat.le_refl _⟩ ⟨_, rfl, rfl, rfl, rfl, Or.inr ⟨3, u, rfl, by omega, rfl, by omega, Or.inl ⟨Or.inr rfl, by (try dsimp only); omega, by (try dsimp only); omega⟩, Or.inl ⟨rfl, fun hr9 => by have hr8 := hr9; unfold mRoom mJn at hr8; rw [show mCnt (3, u) = 0 from rfl] at hr8; dsimp only at hr8; omega⟩⟩⟩
                                    · refine g_aload_n (q := 190) hx d_Mo_barred_189 rfl rfl ?_
                                      refine g_geta (q := 193) hx d_Mo_barred_190 rfl fl_Mo_16 hq.g0 (hq.p3 hP) (by first | exact Nat.succ_ne_zero _ | omega) ?_
                                      refine g_iload_n (q := 194) hx d_Mo_barred_193 rfl rfl ?_
                                      refine g_iald (q := 195) hx d_Mo_barred_194 rfl hq.g3 rfl (by omega) (by decide) q2 ?_
                                      refine g_bipush (q := 197) (v := nI 12) hx d_Mo_barred_195 rfl (by decide) ?_
                                      refine g_icmp_ne (q := 200) (t := 209) hx d_Mo_barred_197 rfl rfl (not_congr (nI_eq (by omega) (by omega))) (fun h197 => ?_) (fun h197 => ?_)
                                      · refine g_iconst (q := 210) (v := nI 0) hx d_Mo_barred_209 rfl (by decide) ?_
                                        exact g_iret hx d_Mo_barred_210 rfl hQ ⟨Nat.le_refl _, Nat.le_refl _⟩ ⟨_, rfl, rfl, rfl, rfl, Or.inr ⟨3, u, rfl, by omega, rfl, by omega, Or.inl ⟨Or.inr rfl, by (try dsimp only); omega, by (try dsimp only); omega⟩, Or.inr ⟨rfl, by unfold mRoom mJn; rw [show mCnt (3, u) = 0 from rfl]; dsimp only; omega⟩⟩⟩
                                      · refine g_iload (q := 202) hx d_Mo_barred_200 rfl rfl ?_
                                        refine g_if_ne (q := 205) (t := 209) hx d_Mo_barred_202 rfl rfl (zb_ne0 (by omega)) (fun h202 => ?_) (fun h202 => ?_)
                                        · refine g_iconst (q := 210) (v := nI 0) hx d_Mo_barred_209 rfl (by decide) ?_
                                          exact g_iret hx d_Mo_barred_210 rfl hQ ⟨Nat.le_refl _, Nat.le_refl _⟩ ⟨_, rfl, rfl, rfl, rfl, Or.inr ⟨3, u, rfl, by omega, rfl, by omega, Or.inl ⟨Or.inr rfl, by (try dsimp only); omega, by (try dsimp only); omega⟩, Or.inr ⟨rfl, by unfold mRoom mJn; rw [show mCnt (3, u) = 0 from rfl]; dsimp only; omega⟩⟩⟩
                                        · exact absurd h202 (by omega)
                          · exact absurd h113 (by omega)
                        · exact absurd h79 (by omega)
                      · exact absurd h63 (by omega)
set_option maxHeartbeats 4000000 in
set_option maxRecDepth 100000 in
theorem c_Mo_append (l : Launch) (E : zE) (Γ : zG) (n : Nat) (M : zM) (m : Nat) (r : Nat) (rd : mRd) (k v : Nat) (hq : qX Γ M.2.2 m) (hS : qS M m r rd) (hr : r < 31) (h12 : rd.2.length ≤ 12) (hk : k < 4) (hroom : mRoom rd.2 (k, v)) (hks : mKs rd.2) :
    zCt l E Y_Mo_append 0 (0, 0) [.ref m, .int (nI r), .int (nI k), .int (nI v)] Γ n M (zPv Γ n (fun M' => kF bSA bN bN m M M' ∧ kS r m M M' ∧ qS M' m r (rd.1, mAdd rd.2 (k, v)))) := by
  refine zCt.of [(0, .ref m), (1, .int (nI r)), (2, .int (nI k)), (3, .int (nI v))] (by decide) (Nat.le_of_ble_eq_true rfl) rfl (fun f hfl hx hQ => ?_)
  obtain ⟨P, hP⟩ : ∃ P, M.2.2 = P := ⟨_, rfl⟩
  rw [hP] at hq
  have hm0 := hq.m0
  obtain ⟨q1, q2, q3, q4, q5⟩ := hS
  have q5b : 0 < rd.2.length → zi M (m + 6) (12 * r + (rd.2.length - 1)) = nI (mK rd.2 (rd.2.length - 1)) ∧ zi M (m + 7) (12 * r + (rd.2.length - 1)) = nI (mV rd.2 (rd.2.length - 1)) := fun h => q5 _ (by omega)
  have hkl : 0 < rd.2.length → mK rd.2 (rd.2.length - 1) < 4 := fun h => hks _ (by omega)
  obtain rfl | rfl | rfl | rfl : k = 0 ∨ k = 1 ∨ k = 2 ∨ k = 3 := by omega
  · refine g_iload_n (q := 1) hx d_Mo_append_0 rfl rfl ?_
    refine g_if_eq (q := 4) (t := 9) hx d_Mo_append_1 rfl rfl (zb_eq0 (by omega)) (fun h1 => ?_) (fun h1 => ?_)
    · refine g_iconst (q := 10) (v := nI 1) hx d_Mo_append_9 rfl (by decide) ?_
      refine g_goto (q := 14) hx d_Mo_append_10 rfl ?_
      refine g_istore (q := 16) (lc' := [(4, _), (0, _), (1, _), (2, _), (3, _)]) hx d_Mo_append_14 rfl (by decide) rfl ?_
      refine g_iload (q := 18) hx d_Mo_append_16 rfl rfl ?_
      refine g_if_eq (q := 21) (t := 56) hx d_Mo_append_18 rfl rfl (zb_eq0 (by omega)) (fun h18 => ?_) (fun h18 => ?_)
      · exact absurd h18 (by omega)
      · refine g_aload_n (q := 22) hx d_Mo_append_21 rfl rfl ?_
        refine g_geta (q := 25) hx d_Mo_append_22 rfl fl_Mo_16 hq.g0 (hq.p3 hP) (by first | exact Nat.succ_ne_zero _ | omega) ?_
        refine g_iload_n (q := 26) hx d_Mo_append_25 rfl rfl ?_
        refine g_iald (q := 27) hx d_Mo_append_26 rfl hq.g3 rfl (by omega) (by decide) q2 ?_
        refine g_if_le (q := 30) (t := 56) hx d_Mo_append_27 rfl rfl (zb_le0 (by omega)) (fun h27 => ?_) (fun h27 => ?_)
        · refine g_iconst (q := 57) (v := nI 0) hx d_Mo_append_56 rfl (by decide) ?_
          refine g_istore (q := 59) (lc' := [(5, _), (4, _), (0, _), (1, _), (2, _), (3, _)]) hx d_Mo_append_57 rfl (by decide) rfl ?_
          refine g_iload (q := 61) hx d_Mo_append_59 rfl rfl ?_
          refine g_if_eq (q := 64) (t := 105) hx d_Mo_append_61 rfl rfl (zb_eq0 (by omega)) (fun h61 => ?_) (fun h61 => ?_)
          · have hnj : ¬ mJn rd.2 0 := by unfold mJn; omega
            have h12l : rd.2.length < 12 := hroom.2.resolve_left hnj
            refine g_aload_n (q := 106) hx d_Mo_append_105 rfl rfl ?_
            refine g_geta (q := 109) hx d_Mo_append_106 rfl fl_Mo_25 hq.g0 (hq.p6 hP) (by first | exact Nat.succ_ne_zero _ | omega) ?_
            refine g_bipush (q := 111) (v := nI 12) hx d_Mo_append_109 rfl (by decide) ?_
            refine g_iload_n (q := 112) hx d_Mo_append_111 rfl rfl ?_
            refine g_imul (q := 113) hx d_Mo_append_112 rfl (pk_mul _ _) ?_
            refine g_aload_n (q := 114) hx d_Mo_append_113 rfl rfl ?_
            refine g_geta (q := 117) hx d_Mo_append_114 rfl fl_Mo_16 hq.g0 (hq.p3 hP) (by first | exact Nat.succ_ne_zero _ | omega) ?_
            refine g_iload_n (q := 118) hx d_Mo_append_117 rfl rfl ?_
            refine g_iald (q := 119) hx d_Mo_append_118 rfl hq.g3 rfl (by omega) (by decide) q2 ?_
            refine g_iadd (q := 120) hx d_Mo_append_119 rfl (nI_add _ _) ?_
            refine g_iload_n (q := 121) hx d_Mo_append_120 rfl rfl ?_
            refine g_iast (q := 122) hx d_Mo_append_121 rfl hq.g6 rfl (by omega) (by decide) ?_
            refine g_aload_n (q := 123) hx d_Mo_append_122 rfl rfl ?_
            refine g_geta (q := 126) hx d_Mo_append_123 rfl fl_Mo_28 hq.g0 (hq.p7 hP) (by first | exact Nat.succ_ne_zero _ | omega) ?_
            refine g_bipush (q := 128) (v := nI 12) hx d_Mo_append_126 rfl (by decide) ?_
            refine g_iload_n (q := 129) hx d_Mo_append_128 rfl rfl ?_
            refine g_imul (q := 130) hx d_Mo_append_129 rfl (pk_mul _ _) ?_
            refine g_aload_n (q := 131) hx d_Mo_append_130 rfl rfl ?_
            refine g_geta (q := 134) hx d_Mo_append_131 rfl fl_Mo_16 hq.g0 (hq.p3 hP) (by first | exact Nat.succ_ne_zero _ | omega) ?_
            refine g_iload_n (q := 135) hx d_Mo_append_134 rfl rfl ?_
            refine g_iald (q := 136) hx d_Mo_append_135 rfl hq.g3 rfl (by omega) (by decide) ((zi_a (by omega)).trans q2) ?_
            refine g_iadd (q := 137) hx d_Mo_append_136 rfl (nI_add _ _) ?_
            refine g_iload_n (q := 138) hx d_Mo_append_137 rfl rfl ?_
            refine g_iast (q := 139) hx d_Mo_append_138 rfl hq.g7 rfl (by omega) (by decide) ?_
            refine g_aload_n (q := 140) hx d_Mo_append_139 rfl rfl ?_
            refine g_geta (q := 143) hx d_Mo_append_140 rfl fl_Mo_16 hq.g0 (hq.p3 hP) (by first | exact Nat.succ_ne_zero _ | omega) ?_
            refine g_iload_n (q := 144) hx d_Mo_append_143 rfl rfl ?_
            refine g_dup2 (q := 145) hx d_Mo_append_144 rfl rfl rfl ?_
            refine g_iald (q := 146) hx d_Mo_append_145 rfl hq.g3 rfl (by omega) (by decide) ((zi_a (by omega)).trans ((zi_a (by omega)).trans q2)) ?_
            refine g_iconst (q := 147) (v := nI 1) hx d_Mo_append_146 rfl (by decide) ?_
            refine g_iadd (q := 148) hx d_Mo_append_147 rfl (nI_add _ _) ?_
            refine g_iast (q := 149) hx d_Mo_append_148 rfl hq.g3 rfl (by omega) (by decide) ?_
            refine g_aload_n (q := 150) hx d_Mo_append_149 rfl rfl ?_
            refine g_geta (q := 153) hx d_Mo_append_150 rfl fl_Mo_19 hq.g0 (hq.p4 hP) (by first | exact Nat.succ_ne_zero _ | omega) ?_
            refine g_iload_n (q := 154) hx d_Mo_append_153 rfl rfl ?_
            refine g_iload_n (q := 155) hx d_Mo_append_154 rfl rfl ?_
            refine g_if_ne (q := 158) (t := 169) hx d_Mo_append_155 rfl rfl (zb_ne0 (by omega)) (fun h155 => ?_) (fun h155 => ?_)
            · exact absurd h155 (by omega)
            · refine g_aload_n (q := 159) hx d_Mo_append_158 rfl rfl ?_
              refine g_geta (q := 162) hx d_Mo_append_159 rfl fl_Mo_19 hq.g0 (hq.p4 hP) (by first | exact Nat.succ_ne_zero _ | omega) ?_
              refine g_iload_n (q := 163) hx d_Mo_append_162 rfl rfl ?_
              refine g_iald (q := 164) hx d_Mo_append_163 rfl hq.g4 rfl (by omega) (by decide) ((zi_a (by omega)).trans ((zi_a (by omega)).trans ((zi_a (by omega)).trans (q3)))) ?_
              refine g_iload_n (q := 165) hx d_Mo_append_164 rfl rfl ?_
              refine g_iadd (q := 166) hx d_Mo_append_165 rfl (nI_add _ _) ?_
              refine g_goto (q := 191) hx d_Mo_append_166 rfl ?_
              refine g_iast (q := 192) hx d_Mo_append_191 rfl hq.g4 rfl (by omega) (by decide) ?_
              refine g_aload_n (q := 193) hx d_Mo_append_192 rfl rfl ?_
              refine g_geta (q := 196) hx d_Mo_append_193 rfl fl_Mo_22 hq.g0 (hq.p5 hP) (by first | exact Nat.succ_ne_zero _ | omega) ?_
              refine g_iload_n (q := 197) hx d_Mo_append_196 rfl rfl ?_
              refine g_iload (q := 199) hx d_Mo_append_197 rfl rfl ?_
              refine g_if_eq (q := 202) (t := 213) hx d_Mo_append_199 rfl rfl (zb_eq0 (by omega)) (fun h199 => ?_) (fun h199 => ?_)
              · exact absurd h199 (by omega)
              · refine g_aload_n (q := 203) hx d_Mo_append_202 rfl rfl ?_
                refine g_geta (q := 206) hx d_Mo_append_203 rfl fl_Mo_22 hq.g0 (hq.p5 hP) (by first | exact Nat.succ_ne_zero _ | omega) ?_
                refine g_iload_n (q := 207) hx d_Mo_append_206 rfl rfl ?_
                refine g_iald (q := 208) hx d_Mo_append_207 rfl hq.g5 rfl (by omega) (by decide) ((zi_a (by omega)).trans ((zi_a (by omega)).trans ((zi_a (by omega)).trans ((zi_a (by omega)).trans (q4))))) ?_
                refine g_iload_n (q := 209) hx d_Mo_append_208 rfl rfl ?_
                refine g_iadd (q := 210) hx d_Mo_append_209 rfl (nI_add _ _) ?_
                refine g_goto (q := 235) hx d_Mo_append_210 rfl ?_
                refine g_iast (q := 236) hx d_Mo_append_235 rfl hq.g5 rfl (by omega) (by decide) ?_
                exact g_vret hx d_Mo_append_236 rfl hQ ⟨Nat.le_refl _, Nat.le_refl _⟩ ⟨rfl, rfl, rfl, ((((kF.rf.sa rfl (by decide) (by decide)).sa rfl (by decide) (by decide)).sa rfl (by decide) (by decide)).sa rfl (by decide) (by decide)).sa rfl (by decide) (by decide), ((((kS.rf.t (by decide) (by omega)).t (by decide) (by omega)).s (by decide)).s (by decide)).s (by decide), (zi_a (by omega)).trans ((zi_a (by omega)).trans ((zi_a (by omega)).trans ((zi_a (by omega)).trans ((zi_a (by omega)).trans q1)))), by
                      rw [zi_a (by omega), zi_a (by omega), zi_s]
                      exact congrArg nI (mAdd_len' (e := (0, v)) hnj).symm, by
                      rw [zi_a (by omega), zi_s]
                      exact congrArg nI (mBc_add rd.2 (0, v)).symm, by
                      rw [zi_s]
                      exact congrArg nI (mPs_add rd.2 (0, v)).symm, fun j hj9 => by
                      have hl9 := mAdd_len' (e := (0, v)) hnj
                      have hj8 : j < rd.2.length + 1 := by rw [← hl9]; exact hj9
                      show _ = nI (mK (mAdd rd.2 (0, v)) j) ∧ _ = nI (mV (mAdd rd.2 (0, v)) j)
                      rw [mAdd_n (e := (0, v)) hnj]
                      refine ⟨?_, ?_⟩
                      · rw [zi_a (by omega), zi_a (by omega), zi_a (by omega), zi_a (by omega)]
                        by_cases e9 : j = rd.2.length
                        · subst e9; rw [zi_s, mK_hi]
                        · rw [zi_k (by omega), mK_lo (by omega)]; exact (q5 j (by omega)).1
                      · rw [zi_a (by omega), zi_a (by omega), zi_a (by omega)]
                        by_cases e9 : j = rd.2.length
                        · subst e9; rw [zi_s, mV_hi]
                        · rw [zi_k (by omega), zi_a (by omega), mV_lo (by omega)]; exact (q5 j (by omega)).2⟩
          · exact absurd h61 (by omega)
        · refine g_aload_n (q := 31) hx d_Mo_append_30 rfl rfl ?_
          refine g_geta (q := 34) hx d_Mo_append_31 rfl fl_Mo_25 hq.g0 (hq.p6 hP) (by first | exact Nat.succ_ne_zero _ | omega) ?_
          refine g_bipush (q := 36) (v := nI 12) hx d_Mo_append_34 rfl (by decide) ?_
          refine g_iload_n (q := 37) hx d_Mo_append_36 rfl rfl ?_
          refine g_imul (q := 38) hx d_Mo_append_37 rfl (pk_mul _ _) ?_
          refine g_aload_n (q := 39) hx d_Mo_append_38 rfl rfl ?_
          refine g_geta (q := 42) hx d_Mo_append_39 rfl fl_Mo_16 hq.g0 (hq.p3 hP) (by first | exact Nat.succ_ne_zero _ | omega) ?_
          refine g_iload_n (q := 43) hx d_Mo_append_42 rfl rfl ?_
          refine g_iald (q := 44) hx d_Mo_append_43 rfl hq.g3 rfl (by omega) (by decide) q2 ?_
          refine g_iadd (q := 45) hx d_Mo_append_44 rfl (nI_add _ _) ?_
          refine g_iconst (q := 46) (v := nI 1) hx d_Mo_append_45 rfl (by decide) ?_
          refine g_isub (q := 47) hx d_Mo_append_46 rfl (pk_sub (by omega)) ?_
          refine g_iald (q := 48) hx d_Mo_append_47 rfl hq.g6 (congrArg nI (by omega : 12 * r + rd.2.length - 1 = 12 * r + (rd.2.length - 1))) (by omega) (by decide) (q5b (by omega)).1 ?_
          refine g_iload_n (q := 49) hx d_Mo_append_48 rfl rfl ?_
          refine g_icmp_ne (q := 52) (t := 56) hx d_Mo_append_49 rfl rfl (not_congr (nI_eq (by omega) (by omega))) (fun h49 => ?_) (fun h49 => ?_)
          · refine g_iconst (q := 57) (v := nI 0) hx d_Mo_append_56 rfl (by decide) ?_
            refine g_istore (q := 59) (lc' := [(5, _), (4, _), (0, _), (1, _), (2, _), (3, _)]) hx d_Mo_append_57 rfl (by decide) rfl ?_
            refine g_iload (q := 61) hx d_Mo_append_59 rfl rfl ?_
            refine g_if_eq (q := 64) (t := 105) hx d_Mo_append_61 rfl rfl (zb_eq0 (by omega)) (fun h61 => ?_) (fun h61 => ?_)
            · have hnj : ¬ mJn rd.2 0 := by unfold mJn; omega
              have h12l : rd.2.length < 12 := hroom.2.resolve_left hnj
              refine g_aload_n (q := 106) hx d_Mo_append_105 rfl rfl ?_
              refine g_geta (q := 109) hx d_Mo_append_106 rfl fl_Mo_25 hq.g0 (hq.p6 hP) (by first | exact Nat.succ_ne_zero _ | omega) ?_
              refine g_bipush (q := 111) (v := nI 12) hx d_Mo_append_109 rfl (by decide) ?_
              refine g_iload_n (q := 112) hx d_Mo_append_111 rfl rfl ?_
              refine g_imul (q := 113) hx d_Mo_append_112 rfl (pk_mul _ _) ?_
              refine g_aload_n (q := 114) hx d_Mo_append_113 rfl rfl ?_
              refine g_geta (q := 117) hx d_Mo_append_114 rfl fl_Mo_16 hq.g0 (hq.p3 hP) (by first | exact Nat.succ_ne_zero _ | omega) ?_
              refine g_iload_n (q := 118) hx d_Mo_append_117 rfl rfl ?_
              refine g_iald (q := 119) hx d_Mo_append_118 rfl hq.g3 rfl (by omega) (by decide) q2 ?_
              refine g_iadd (q := 120) hx d_Mo_append_119 rfl (nI_add _ _) ?_
              refine g_iload_n (q := 121) hx d_Mo_append_120 rfl rfl ?_
              refine g_iast (q := 122) hx d_Mo_append_121 rfl hq.g6 rfl (by omega) (by decide) ?_
              refine g_aload_n (q := 123) hx d_Mo_append_122 rfl rfl ?_
              refine g_geta (q := 126) hx d_Mo_append_123 rfl fl_Mo_28 hq.g0 (hq.p7 hP) (by first | exact Nat.succ_ne_zero _ | omega) ?_
              refine g_bipush (q := 128) (v := nI 12) hx d_Mo_append_126 rfl (by decide) ?_
              refine g_iload_n (q := 129) hx d_Mo_append_128 rfl rfl ?_
              refine g_imul (q := 130) hx d_Mo_append_129 rfl (pk_mul _ _) ?_
              refine g_aload_n (q := 131) hx d_Mo_append_130 rfl rfl ?_
              refine g_geta (q := 134) hx d_Mo_append_131 rfl fl_Mo_16 hq.g0 (hq.p3 hP) (by first | exact Nat.succ_ne_zero _ | omega) ?_
              refine g_iload_n (q := 135) hx d_Mo_append_134 rfl rfl ?_
              refine g_iald (q := 136) hx d_Mo_append_135 rfl hq.g3 rfl (by omega) (by decide) ((zi_a (by omega)).trans q2) ?_
              refine g_iadd (q := 137) hx d_Mo_append_136 rfl (nI_add _ _) ?_
              refine g_iload_n (q := 138) hx d_Mo_append_137 rfl rfl ?_
              refine g_iast (q := 139) hx d_Mo_append_138 rfl hq.g7 rfl (by omega) (by decide) ?_
              refine g_aload_n (q := 140) hx d_Mo_append_139 rfl rfl ?_
              refine g_geta (q := 143) hx d_Mo_append_140 rfl fl_Mo_16 hq.g0 (hq.p3 hP) (by first | exact Nat.succ_ne_zero _ | omega) ?_
              refine g_iload_n (q := 144) hx d_Mo_append_143 rfl rfl ?_
              refine g_dup2 (q := 145) hx d_Mo_append_144 rfl rfl rfl ?_
              refine g_iald (q := 146) hx d_Mo_append_145 rfl hq.g3 rfl (by omega) (by decide) ((zi_a (by omega)).trans ((zi_a (by omega)).trans q2)) ?_
              refine g_iconst (q := 147) (v := nI 1) hx d_Mo_append_146 rfl (by decide) ?_
              refine g_iadd (q := 148) hx d_Mo_append_147 rfl (nI_add _ _) ?_
              refine g_iast (q := 149) hx d_Mo_append_148 rfl hq.g3 rfl (by omega) (by decide) ?_
              refine g_aload_n (q := 150) hx d_Mo_append_149 rfl rfl ?_
              refine g_geta (q := 153) hx d_Mo_append_150 rfl fl_Mo_19 hq.g0 (hq.p4 hP) (by first | exact Nat.succ_ne_zero _ | omega) ?_
              refine g_iload_n (q := 154) hx d_Mo_append_153 rfl rfl ?_
              refine g_iload_n (q := 155) hx d_Mo_append_154 rfl rfl ?_
              refine g_if_ne (q := 158) (t := 169) hx d_Mo_append_155 rfl rfl (zb_ne0 (by omega)) (fun h155 => ?_) (fun h155 => ?_)
              · exact absurd h155 (by omega)
              · refine g_aload_n (q := 159) hx d_Mo_append_158 rfl rfl ?_
                refine g_geta (q := 162) hx d_Mo_append_159 rfl fl_Mo_19 hq.g0 (hq.p4 hP) (by first | exact Nat.succ_ne_zero _ | omega) ?_
                refine g_iload_n (q := 163) hx d_Mo_append_162 rfl rfl ?_
                refine g_iald (q := 164) hx d_Mo_append_163 rfl hq.g4 rfl (by omega) (by decide) ((zi_a (by omega)).trans ((zi_a (by omega)).trans ((zi_a (by omega)).trans (q3)))) ?_
                refine g_iload_n (q := 165) hx d_Mo_append_164 rfl rfl ?_
                refine g_iadd (q := 166) hx d_Mo_append_165 rfl (nI_add _ _) ?_
                refine g_goto (q := 191) hx d_Mo_append_166 rfl ?_
                refine g_iast (q := 192) hx d_Mo_append_191 rfl hq.g4 rfl (by omega) (by decide) ?_
                refine g_aload_n (q := 193) hx d_Mo_append_192 rfl rfl ?_
                refine g_geta (q := 196) hx d_Mo_append_193 rfl fl_Mo_22 hq.g0 (hq.p5 hP) (by first | exact Nat.succ_ne_zero _ | omega) ?_
                refine g_iload_n (q := 197) hx d_Mo_append_196 rfl rfl ?_
                refine g_iload (q := 199) hx d_Mo_append_197 rfl rfl ?_
                refine g_if_eq (q := 202) (t := 213) hx d_Mo_append_199 rfl rfl (zb_eq0 (by omega)) (fun h199 => ?_) (fun h199 => ?_)
                · exact absurd h199 (by omega)
                · refine g_aload_n (q := 203) hx d_Mo_append_202 rfl rfl ?_
                  refine g_geta (q := 206) hx d_Mo_append_203 rfl fl_Mo_22 hq.g0 (hq.p5 hP) (by first | exact Nat.succ_ne_zero _ | omega) ?_
                  refine g_iload_n (q := 207) hx d_Mo_append_206 rfl rfl ?_
                  refine g_iald (q := 208) hx d_Mo_append_207 rfl hq.g5 rfl (by omega) (by decide) ((zi_a (by omega)).trans ((zi_a (by omega)).trans ((zi_a (by omega)).trans ((zi_a (by omega)).trans (q4))))) ?_
                  refine g_iload_n (q := 209) hx d_Mo_append_208 rfl rfl ?_
                  refine g_iadd (q := 210) hx d_Mo_append_209 rfl (nI_add _ _) ?_
                  refine g_goto (q := 235) hx d_Mo_append_210 rfl ?_
                  refine g_iast (q := 236) hx d_Mo_append_235 rfl hq.g5 rfl (by omega) (by decide) ?_
                  exact g_vret hx d_Mo_append_236 rfl hQ ⟨Nat.le_refl _, Nat.le_refl _⟩ ⟨rfl, rfl, rfl, ((((kF.rf.sa rfl (by decide) (by decide)).sa rfl (by decide) (by decide)).sa rfl (by decide) (by decide)).sa rfl (by decide) (by decide)).sa rfl (by decide) (by decide), ((((kS.rf.t (by decide) (by omega)).t (by decide) (by omega)).s (by decide)).s (by decide)).s (by decide), (zi_a (by omega)).trans ((zi_a (by omega)).trans ((zi_a (by omega)).trans ((zi_a (by omega)).trans ((zi_a (by omega)).trans q1)))), by
                        rw [zi_a (by omega), zi_a (by omega), zi_s]
                        exact congrArg nI (mAdd_len' (e := (0, v)) hnj).symm, by
                        rw [zi_a (by omega), zi_s]
                        exact congrArg nI (mBc_add rd.2 (0, v)).symm, by
                        rw [zi_s]
                        exact congrArg nI (mPs_add rd.2 (0, v)).symm, fun j hj9 => by
                        have hl9 := mAdd_len' (e := (0, v)) hnj
                        have hj8 : j < rd.2.length + 1 := by rw [← hl9]; exact hj9
                        show _ = nI (mK (mAdd rd.2 (0, v)) j) ∧ _ = nI (mV (mAdd rd.2 (0, v)) j)
                        rw [mAdd_n (e := (0, v)) hnj]
                        refine ⟨?_, ?_⟩
                        · rw [zi_a (by omega), zi_a (by omega), zi_a (by omega), zi_a (by omega)]
                          by_cases e9 : j = rd.2.length
                          · subst e9; rw [zi_s, mK_hi]
                          · rw [zi_k (by omega), mK_lo (by omega)]; exact (q5 j (by omega)).1
                        · rw [zi_a (by omega), zi_a (by omega), zi_a (by omega)]
                          by_cases e9 : j = rd.2.length
                          · subst e9; rw [zi_s, mV_hi]
                          · rw [zi_k (by omega), zi_a (by omega), mV_lo (by omega)]; exact (q5 j (by omega)).2⟩
            · exact absurd h61 (by omega)
          · refine g_iconst (q := 53) (v := nI 1) hx d_Mo_append_52 rfl (by decide) ?_
            refine g_goto (q := 57) hx d_Mo_append_53 rfl ?_
            refine g_istore (q := 59) (lc' := [(5, _), (4, _), (0, _), (1, _), (2, _), (3, _)]) hx d_Mo_append_57 rfl (by decide) rfl ?_
            refine g_iload (q := 61) hx d_Mo_append_59 rfl rfl ?_
            refine g_if_eq (q := 64) (t := 105) hx d_Mo_append_61 rfl rfl (zb_eq0 (by omega)) (fun h61 => ?_) (fun h61 => ?_)
            · exact absurd h61 (by omega)
            · have hj : mJn rd.2 0 := by unfold mJn; omega
              refine g_aload_n (q := 65) hx d_Mo_append_64 rfl rfl ?_
              refine g_geta (q := 68) hx d_Mo_append_65 rfl fl_Mo_28 hq.g0 (hq.p7 hP) (by first | exact Nat.succ_ne_zero _ | omega) ?_
              refine g_bipush (q := 70) (v := nI 12) hx d_Mo_append_68 rfl (by decide) ?_
              refine g_iload_n (q := 71) hx d_Mo_append_70 rfl rfl ?_
              refine g_imul (q := 72) hx d_Mo_append_71 rfl (pk_mul _ _) ?_
              refine g_aload_n (q := 73) hx d_Mo_append_72 rfl rfl ?_
              refine g_geta (q := 76) hx d_Mo_append_73 rfl fl_Mo_16 hq.g0 (hq.p3 hP) (by first | exact Nat.succ_ne_zero _ | omega) ?_
              refine g_iload_n (q := 77) hx d_Mo_append_76 rfl rfl ?_
              refine g_iald (q := 78) hx d_Mo_append_77 rfl hq.g3 rfl (by omega) (by decide) q2 ?_
              refine g_iadd (q := 79) hx d_Mo_append_78 rfl (nI_add _ _) ?_
              refine g_iconst (q := 80) (v := nI 1) hx d_Mo_append_79 rfl (by decide) ?_
              refine g_isub (q := 81) hx d_Mo_append_80 rfl (pk_sub (by omega)) ?_
              refine g_aload_n (q := 82) hx d_Mo_append_81 rfl rfl ?_
              refine g_geta (q := 85) hx d_Mo_append_82 rfl fl_Mo_28 hq.g0 (hq.p7 hP) (by first | exact Nat.succ_ne_zero _ | omega) ?_
              refine g_bipush (q := 87) (v := nI 12) hx d_Mo_append_85 rfl (by decide) ?_
              refine g_iload_n (q := 88) hx d_Mo_append_87 rfl rfl ?_
              refine g_imul (q := 89) hx d_Mo_append_88 rfl (pk_mul _ _) ?_
              refine g_aload_n (q := 90) hx d_Mo_append_89 rfl rfl ?_
              refine g_geta (q := 93) hx d_Mo_append_90 rfl fl_Mo_16 hq.g0 (hq.p3 hP) (by first | exact Nat.succ_ne_zero _ | omega) ?_
              refine g_iload_n (q := 94) hx d_Mo_append_93 rfl rfl ?_
              refine g_iald (q := 95) hx d_Mo_append_94 rfl hq.g3 rfl (by omega) (by decide) q2 ?_
              refine g_iadd (q := 96) hx d_Mo_append_95 rfl (nI_add _ _) ?_
              refine g_iconst (q := 97) (v := nI 1) hx d_Mo_append_96 rfl (by decide) ?_
              refine g_isub (q := 98) hx d_Mo_append_97 rfl (pk_sub (by omega)) ?_
              refine g_iald (q := 99) hx d_Mo_append_98 rfl hq.g7 (congrArg nI (by omega : 12 * r + rd.2.length - 1 = 12 * r + (rd.2.length - 1))) (by omega) (by decide) (q5b (by omega)).2 ?_
              refine g_iload_n (q := 100) hx d_Mo_append_99 rfl rfl ?_
              refine g_iadd (q := 101) hx d_Mo_append_100 rfl (nI_add _ _) ?_
              refine g_iast (q := 102) hx d_Mo_append_101 rfl hq.g7 (congrArg nI (by omega : 12 * r + rd.2.length - 1 = 12 * r + (rd.2.length - 1))) (by omega) (by decide) ?_
              refine g_goto (q := 149) hx d_Mo_append_102 rfl ?_
              refine g_aload_n (q := 150) hx d_Mo_append_149 rfl rfl ?_
              refine g_geta (q := 153) hx d_Mo_append_150 rfl fl_Mo_19 hq.g0 (hq.p4 hP) (by first | exact Nat.succ_ne_zero _ | omega) ?_
              refine g_iload_n (q := 154) hx d_Mo_append_153 rfl rfl ?_
              refine g_iload_n (q := 155) hx d_Mo_append_154 rfl rfl ?_
              refine g_if_ne (q := 158) (t := 169) hx d_Mo_append_155 rfl rfl (zb_ne0 (by omega)) (fun h155 => ?_) (fun h155 => ?_)
              · exact absurd h155 (by omega)
              · refine g_aload_n (q := 159) hx d_Mo_append_158 rfl rfl ?_
                refine g_geta (q := 162) hx d_Mo_append_159 rfl fl_Mo_19 hq.g0 (hq.p4 hP) (by first | exact Nat.succ_ne_zero _ | omega) ?_
                refine g_iload_n (q := 163) hx d_Mo_append_162 rfl rfl ?_
                refine g_iald (q := 164) hx d_Mo_append_163 rfl hq.g4 rfl (by omega) (by decide) ((zi_a (by omega)).trans (q3)) ?_
                refine g_iload_n (q := 165) hx d_Mo_append_164 rfl rfl ?_
                refine g_iadd (q := 166) hx d_Mo_append_165 rfl (nI_add _ _) ?_
                refine g_goto (q := 191) hx d_Mo_append_166 rfl ?_
                refine g_iast (q := 192) hx d_Mo_append_191 rfl hq.g4 rfl (by omega) (by decide) ?_
                refine g_aload_n (q := 193) hx d_Mo_append_192 rfl rfl ?_
                refine g_geta (q := 196) hx d_Mo_append_193 rfl fl_Mo_22 hq.g0 (hq.p5 hP) (by first | exact Nat.succ_ne_zero _ | omega) ?_
                refine g_iload_n (q := 197) hx d_Mo_append_196 rfl rfl ?_
                refine g_iload (q := 199) hx d_Mo_append_197 rfl rfl ?_
                refine g_if_eq (q := 202) (t := 213) hx d_Mo_append_199 rfl rfl (zb_eq0 (by omega)) (fun h199 => ?_) (fun h199 => ?_)
                · exact absurd h199 (by omega)
                · refine g_aload_n (q := 203) hx d_Mo_append_202 rfl rfl ?_
                  refine g_geta (q := 206) hx d_Mo_append_203 rfl fl_Mo_22 hq.g0 (hq.p5 hP) (by first | exact Nat.succ_ne_zero _ | omega) ?_
                  refine g_iload_n (q := 207) hx d_Mo_append_206 rfl rfl ?_
                  refine g_iald (q := 208) hx d_Mo_append_207 rfl hq.g5 rfl (by omega) (by decide) ((zi_a (by omega)).trans ((zi_a (by omega)).trans (q4))) ?_
                  refine g_iload_n (q := 209) hx d_Mo_append_208 rfl rfl ?_
                  refine g_iadd (q := 210) hx d_Mo_append_209 rfl (nI_add _ _) ?_
                  refine g_goto (q := 235) hx d_Mo_append_210 rfl ?_
                  refine g_iast (q := 236) hx d_Mo_append_235 rfl hq.g5 rfl (by omega) (by decide) ?_
                  exact g_vret hx d_Mo_append_236 rfl hQ ⟨Nat.le_refl _, Nat.le_refl _⟩ ⟨rfl, rfl, rfl, ((kF.rf.sa rfl (by decide) (by decide)).sa rfl (by decide) (by decide)).sa rfl (by decide) (by decide), ((kS.rf.t (by decide) (by omega)).s (by decide)).s (by decide), (zi_a (by omega)).trans ((zi_a (by omega)).trans ((zi_a (by omega)).trans q1)), by
                        rw [zi_a (by omega), zi_a (by omega), zi_a (by omega), q2]
                        exact congrArg nI (mAdd_len (e := (0, v)) hj).symm, by
                        rw [zi_a (by omega), zi_s]
                        exact congrArg nI (mBc_add rd.2 (0, v)).symm, by
                        rw [zi_s]
                        exact congrArg nI (mPs_add rd.2 (0, v)).symm, fun j hj9 => by
                        have hl9 := mAdd_len (e := (0, v)) hj
                        have hj8 : j < rd.2.length := by rw [← hl9]; exact hj9
                        rw [zi_a (by omega), zi_a (by omega), zi_a (by omega), zi_a (by omega), zi_a (by omega)]
                        refine ⟨(q5 j hj8).1.trans (congrArg nI (mAdd_K (e := (0, v)) hj hj8).symm), ?_⟩
                        by_cases e9 : j = rd.2.length - 1
                        · subst e9
                          rw [zi_s]
                          exact congrArg nI (mAdd_Vl (e := (0, v)) hj).symm
                        · rw [zi_k (by omega)]
                          exact (q5 j hj8).2.trans (congrArg nI (mAdd_V (e := (0, v)) hj (by omega)).symm)⟩
    · exact absurd h1 (by omega)
  · refine g_iload_n (q := 1) hx d_Mo_append_0 rfl rfl ?_
    refine g_if_eq (q := 4) (t := 9) hx d_Mo_append_1 rfl rfl (zb_eq0 (by omega)) (fun h1 => ?_) (fun h1 => ?_)
    · exact absurd h1 (by omega)
    · refine g_iload_n (q := 5) hx d_Mo_append_4 rfl rfl ?_
      refine g_iconst (q := 6) (v := nI 3) hx d_Mo_append_5 rfl (by decide) ?_
      refine g_icmp_ne (q := 9) (t := 13) hx d_Mo_append_6 rfl rfl (not_congr (nI_eq (by omega) (by omega))) (fun h6 => ?_) (fun h6 => ?_)
      · refine g_iconst (q := 14) (v := nI 0) hx d_Mo_append_13 rfl (by decide) ?_
        refine g_istore (q := 16) (lc' := [(4, _), (0, _), (1, _), (2, _), (3, _)]) hx d_Mo_append_14 rfl (by decide) rfl ?_
        refine g_iload (q := 18) hx d_Mo_append_16 rfl rfl ?_
        refine g_if_eq (q := 21) (t := 56) hx d_Mo_append_18 rfl rfl (zb_eq0 (by omega)) (fun h18 => ?_) (fun h18 => ?_)
        · refine g_iconst (q := 57) (v := nI 0) hx d_Mo_append_56 rfl (by decide) ?_
          refine g_istore (q := 59) (lc' := [(5, _), (4, _), (0, _), (1, _), (2, _), (3, _)]) hx d_Mo_append_57 rfl (by decide) rfl ?_
          refine g_iload (q := 61) hx d_Mo_append_59 rfl rfl ?_
          refine g_if_eq (q := 64) (t := 105) hx d_Mo_append_61 rfl rfl (zb_eq0 (by omega)) (fun h61 => ?_) (fun h61 => ?_)
          · have hnj : ¬ mJn rd.2 1 := by unfold mJn; omega
            have h12l : rd.2.length < 12 := hroom.2.resolve_left hnj
            refine g_aload_n (q := 106) hx d_Mo_append_105 rfl rfl ?_
            refine g_geta (q := 109) hx d_Mo_append_106 rfl fl_Mo_25 hq.g0 (hq.p6 hP) (by first | exact Nat.succ_ne_zero _ | omega) ?_
            refine g_bipush (q := 111) (v := nI 12) hx d_Mo_append_109 rfl (by decide) ?_
            refine g_iload_n (q := 112) hx d_Mo_append_111 rfl rfl ?_
            refine g_imul (q := 113) hx d_Mo_append_112 rfl (pk_mul _ _) ?_
            refine g_aload_n (q := 114) hx d_Mo_append_113 rfl rfl ?_
            refine g_geta (q := 117) hx d_Mo_append_114 rfl fl_Mo_16 hq.g0 (hq.p3 hP) (by first | exact Nat.succ_ne_zero _ | omega) ?_
            refine g_iload_n (q := 118) hx d_Mo_append_117 rfl rfl ?_
            refine g_iald (q := 119) hx d_Mo_append_118 rfl hq.g3 rfl (by omega) (by decide) q2 ?_
            refine g_iadd (q := 120) hx d_Mo_append_119 rfl (nI_add _ _) ?_
            refine g_iload_n (q := 121) hx d_Mo_append_120 rfl rfl ?_
            refine g_iast (q := 122) hx d_Mo_append_121 rfl hq.g6 rfl (by omega) (by decide) ?_
            refine g_aload_n (q := 123) hx d_Mo_append_122 rfl rfl ?_
            refine g_geta (q := 126) hx d_Mo_append_123 rfl fl_Mo_28 hq.g0 (hq.p7 hP) (by first | exact Nat.succ_ne_zero _ | omega) ?_
            refine g_bipush (q := 128) (v := nI 12) hx d_Mo_append_126 rfl (by decide) ?_
            refine g_iload_n (q := 129) hx d_Mo_append_128 rfl rfl ?_
            refine g_imul (q := 130) hx d_Mo_append_129 rfl (pk_mul _ _) ?_
            refine g_aload_n (q := 131) hx d_Mo_append_130 rfl rfl ?_
            refine g_geta (q := 134) hx d_Mo_append_131 rfl fl_Mo_16 hq.g0 (hq.p3 hP) (by first | exact Nat.succ_ne_zero _ | omega) ?_
            refine g_iload_n (q := 135) hx d_Mo_append_134 rfl rfl ?_
            refine g_iald (q := 136) hx d_Mo_append_135 rfl hq.g3 rfl (by omega) (by decide) ((zi_a (by omega)).trans q2) ?_
            refine g_iadd (q := 137) hx d_Mo_append_136 rfl (nI_add _ _) ?_
            refine g_iload_n (q := 138) hx d_Mo_append_137 rfl rfl ?_
            refine g_iast (q := 139) hx d_Mo_append_138 rfl hq.g7 rfl (by omega) (by decide) ?_
            refine g_aload_n (q := 140) hx d_Mo_append_139 rfl rfl ?_
            refine g_geta (q := 143) hx d_Mo_append_140 rfl fl_Mo_16 hq.g0 (hq.p3 hP) (by first | exact Nat.succ_ne_zero _ | omega) ?_
            refine g_iload_n (q := 144) hx d_Mo_append_143 rfl rfl ?_
            refine g_dup2 (q := 145) hx d_Mo_append_144 rfl rfl rfl ?_
            refine g_iald (q := 146) hx d_Mo_append_145 rfl hq.g3 rfl (by omega) (by decide) ((zi_a (by omega)).trans ((zi_a (by omega)).trans q2)) ?_
            refine g_iconst (q := 147) (v := nI 1) hx d_Mo_append_146 rfl (by decide) ?_
            refine g_iadd (q := 148) hx d_Mo_append_147 rfl (nI_add _ _) ?_
            refine g_iast (q := 149) hx d_Mo_append_148 rfl hq.g3 rfl (by omega) (by decide) ?_
            refine g_aload_n (q := 150) hx d_Mo_append_149 rfl rfl ?_
            refine g_geta (q := 153) hx d_Mo_append_150 rfl fl_Mo_19 hq.g0 (hq.p4 hP) (by first | exact Nat.succ_ne_zero _ | omega) ?_
            refine g_iload_n (q := 154) hx d_Mo_append_153 rfl rfl ?_
            refine g_iload_n (q := 155) hx d_Mo_append_154 rfl rfl ?_
            refine g_if_ne (q := 158) (t := 169) hx d_Mo_append_155 rfl rfl (zb_ne0 (by omega)) (fun h155 => ?_) (fun h155 => ?_)
            · refine g_iload_n (q := 170) hx d_Mo_append_169 rfl rfl ?_
              refine g_iconst (q := 171) (v := nI 3) hx d_Mo_append_170 rfl (by decide) ?_
              refine g_icmp_ne (q := 174) (t := 183) hx d_Mo_append_171 rfl rfl (not_congr (nI_eq (by omega) (by omega))) (fun h171 => ?_) (fun h171 => ?_)
              · refine g_aload_n (q := 184) hx d_Mo_append_183 rfl rfl ?_
                refine g_geta (q := 187) hx d_Mo_append_184 rfl fl_Mo_19 hq.g0 (hq.p4 hP) (by first | exact Nat.succ_ne_zero _ | omega) ?_
                refine g_iload_n (q := 188) hx d_Mo_append_187 rfl rfl ?_
                refine g_iald (q := 189) hx d_Mo_append_188 rfl hq.g4 rfl (by omega) (by decide) ((zi_a (by omega)).trans ((zi_a (by omega)).trans ((zi_a (by omega)).trans (q3)))) ?_
                refine g_iconst (q := 190) (v := nI 1) hx d_Mo_append_189 rfl (by decide) ?_
                refine g_iadd (q := 191) hx d_Mo_append_190 rfl (nI_add _ _) ?_
                refine g_iast (q := 192) hx d_Mo_append_191 rfl hq.g4 rfl (by omega) (by decide) ?_
                refine g_aload_n (q := 193) hx d_Mo_append_192 rfl rfl ?_
                refine g_geta (q := 196) hx d_Mo_append_193 rfl fl_Mo_22 hq.g0 (hq.p5 hP) (by first | exact Nat.succ_ne_zero _ | omega) ?_
                refine g_iload_n (q := 197) hx d_Mo_append_196 rfl rfl ?_
                refine g_iload (q := 199) hx d_Mo_append_197 rfl rfl ?_
                refine g_if_eq (q := 202) (t := 213) hx d_Mo_append_199 rfl rfl (zb_eq0 (by omega)) (fun h199 => ?_) (fun h199 => ?_)
                · refine g_iload_n (q := 214) hx d_Mo_append_213 rfl rfl ?_
                  refine g_iconst (q := 215) (v := nI 1) hx d_Mo_append_214 rfl (by decide) ?_
                  refine g_icmp_ne (q := 218) (t := 229) hx d_Mo_append_215 rfl rfl (not_congr (nI_eq (by omega) (by omega))) (fun h215 => ?_) (fun h215 => ?_)
                  · exact absurd h215 (by omega)
                  · refine g_aload_n (q := 219) hx d_Mo_append_218 rfl rfl ?_
                    refine g_geta (q := 222) hx d_Mo_append_219 rfl fl_Mo_22 hq.g0 (hq.p5 hP) (by first | exact Nat.succ_ne_zero _ | omega) ?_
                    refine g_iload_n (q := 223) hx d_Mo_append_222 rfl rfl ?_
                    refine g_iald (q := 224) hx d_Mo_append_223 rfl hq.g5 rfl (by omega) (by decide) ((zi_a (by omega)).trans ((zi_a (by omega)).trans ((zi_a (by omega)).trans ((zi_a (by omega)).trans (q4))))) ?_
                    refine g_iconst (q := 225) (v := nI 1) hx d_Mo_append_224 rfl (by decide) ?_
                    refine g_iadd (q := 226) hx d_Mo_append_225 rfl (nI_add _ _) ?_
                    refine g_goto (q := 235) hx d_Mo_append_226 rfl ?_
                    refine g_iast (q := 236) hx d_Mo_append_235 rfl hq.g5 rfl (by omega) (by decide) ?_
                    exact g_vret hx d_Mo_append_236 rfl hQ ⟨Nat.le_refl _, Nat.le_refl _⟩ ⟨rfl, rfl, rfl, ((((kF.rf.sa rfl (by decide) (by decide)).sa rfl (by decide) (by decide)).sa rfl (by decide) (by decide)).sa rfl (by decide) (by decide)).sa rfl (by decide) (by decide), ((((kS.rf.t (by decide) (by omega)).t (by decide) (by omega)).s (by decide)).s (by decide)).s (by decide), (zi_a (by omega)).trans ((zi_a (by omega)).trans ((zi_a (by omega)).trans ((zi_a (by omega)).trans ((zi_a (by omega)).trans q1)))), by
                          rw [zi_a (by omega), zi_a (by omega), zi_s]
                          exact congrArg nI (mAdd_len' (e := (1, v)) hnj).symm, by
                          rw [zi_a (by omega), zi_s]
                          exact congrArg nI (mBc_add rd.2 (1, v)).symm, by
                          rw [zi_s]
                          exact congrArg nI (mPs_add rd.2 (1, v)).symm, fun j hj9 => by
                          have hl9 := mAdd_len' (e := (1, v)) hnj
                          have hj8 : j < rd.2.length + 1 := by rw [← hl9]; exact hj9
                          show _ = nI (mK (mAdd rd.2 (1, v)) j) ∧ _ = nI (mV (mAdd rd.2 (1, v)) j)
                          rw [mAdd_n (e := (1, v)) hnj]
                          refine ⟨?_, ?_⟩
                          · rw [zi_a (by omega), zi_a (by omega), zi_a (by omega), zi_a (by omega)]
                            by_cases e9 : j = rd.2.length
                            · subst e9; rw [zi_s, mK_hi]
                            · rw [zi_k (by omega), mK_lo (by omega)]; exact (q5 j (by omega)).1
                          · rw [zi_a (by omega), zi_a (by omega), zi_a (by omega)]
                            by_cases e9 : j = rd.2.length
                            · subst e9; rw [zi_s, mV_hi]
                            · rw [zi_k (by omega), zi_a (by omega), mV_lo (by omega)]; exact (q5 j (by omega)).2⟩
                · exact absurd h199 (by omega)
              · exact absurd h171 (by omega)
            · exact absurd h155 (by omega)
          · exact absurd h61 (by omega)
        · exact absurd h18 (by omega)
      · exact absurd h6 (by omega)
  · refine g_iload_n (q := 1) hx d_Mo_append_0 rfl rfl ?_
    refine g_if_eq (q := 4) (t := 9) hx d_Mo_append_1 rfl rfl (zb_eq0 (by omega)) (fun h1 => ?_) (fun h1 => ?_)
    · exact absurd h1 (by omega)
    · refine g_iload_n (q := 5) hx d_Mo_append_4 rfl rfl ?_
      refine g_iconst (q := 6) (v := nI 3) hx d_Mo_append_5 rfl (by decide) ?_
      refine g_icmp_ne (q := 9) (t := 13) hx d_Mo_append_6 rfl rfl (not_congr (nI_eq (by omega) (by omega))) (fun h6 => ?_) (fun h6 => ?_)
      · refine g_iconst (q := 14) (v := nI 0) hx d_Mo_append_13 rfl (by decide) ?_
        refine g_istore (q := 16) (lc' := [(4, _), (0, _), (1, _), (2, _), (3, _)]) hx d_Mo_append_14 rfl (by decide) rfl ?_
        refine g_iload (q := 18) hx d_Mo_append_16 rfl rfl ?_
        refine g_if_eq (q := 21) (t := 56) hx d_Mo_append_18 rfl rfl (zb_eq0 (by omega)) (fun h18 => ?_) (fun h18 => ?_)
        · refine g_iconst (q := 57) (v := nI 0) hx d_Mo_append_56 rfl (by decide) ?_
          refine g_istore (q := 59) (lc' := [(5, _), (4, _), (0, _), (1, _), (2, _), (3, _)]) hx d_Mo_append_57 rfl (by decide) rfl ?_
          refine g_iload (q := 61) hx d_Mo_append_59 rfl rfl ?_
          refine g_if_eq (q := 64) (t := 105) hx d_Mo_append_61 rfl rfl (zb_eq0 (by omega)) (fun h61 => ?_) (fun h61 => ?_)
          · have hnj : ¬ mJn rd.2 2 := by unfold mJn; omega
            have h12l : rd.2.length < 12 := hroom.2.resolve_left hnj
            refine g_aload_n (q := 106) hx d_Mo_append_105 rfl rfl ?_
            refine g_geta (q := 109) hx d_Mo_append_106 rfl fl_Mo_25 hq.g0 (hq.p6 hP) (by first | exact Nat.succ_ne_zero _ | omega) ?_
            refine g_bipush (q := 111) (v := nI 12) hx d_Mo_append_109 rfl (by decide) ?_
            refine g_iload_n (q := 112) hx d_Mo_append_111 rfl rfl ?_
            refine g_imul (q := 113) hx d_Mo_append_112 rfl (pk_mul _ _) ?_
            refine g_aload_n (q := 114) hx d_Mo_append_113 rfl rfl ?_
            refine g_geta (q := 117) hx d_Mo_append_114 rfl fl_Mo_16 hq.g0 (hq.p3 hP) (by first | exact Nat.succ_ne_zero _ | omega) ?_
            refine g_iload_n (q := 118) hx d_Mo_append_117 rfl rfl ?_
            refine g_iald (q := 119) hx d_Mo_append_118 rfl hq.g3 rfl (by omega) (by decide) q2 ?_
            refine g_iadd (q := 120) hx d_Mo_append_119 rfl (nI_add _ _) ?_
            refine g_iload_n (q := 121) hx d_Mo_append_120 rfl rfl ?_
            refine g_iast (q := 122) hx d_Mo_append_121 rfl hq.g6 rfl (by omega) (by decide) ?_
            refine g_aload_n (q := 123) hx d_Mo_append_122 rfl rfl ?_
            refine g_geta (q := 126) hx d_Mo_append_123 rfl fl_Mo_28 hq.g0 (hq.p7 hP) (by first | exact Nat.succ_ne_zero _ | omega) ?_
            refine g_bipush (q := 128) (v := nI 12) hx d_Mo_append_126 rfl (by decide) ?_
            refine g_iload_n (q := 129) hx d_Mo_append_128 rfl rfl ?_
            refine g_imul (q := 130) hx d_Mo_append_129 rfl (pk_mul _ _) ?_
            refine g_aload_n (q := 131) hx d_Mo_append_130 rfl rfl ?_
            refine g_geta (q := 134) hx d_Mo_append_131 rfl fl_Mo_16 hq.g0 (hq.p3 hP) (by first | exact Nat.succ_ne_zero _ | omega) ?_
            refine g_iload_n (q := 135) hx d_Mo_append_134 rfl rfl ?_
            refine g_iald (q := 136) hx d_Mo_append_135 rfl hq.g3 rfl (by omega) (by decide) ((zi_a (by omega)).trans q2) ?_
            refine g_iadd (q := 137) hx d_Mo_append_136 rfl (nI_add _ _) ?_
            refine g_iload_n (q := 138) hx d_Mo_append_137 rfl rfl ?_
            refine g_iast (q := 139) hx d_Mo_append_138 rfl hq.g7 rfl (by omega) (by decide) ?_
            refine g_aload_n (q := 140) hx d_Mo_append_139 rfl rfl ?_
            refine g_geta (q := 143) hx d_Mo_append_140 rfl fl_Mo_16 hq.g0 (hq.p3 hP) (by first | exact Nat.succ_ne_zero _ | omega) ?_
            refine g_iload_n (q := 144) hx d_Mo_append_143 rfl rfl ?_
            refine g_dup2 (q := 145) hx d_Mo_append_144 rfl rfl rfl ?_
            refine g_iald (q := 146) hx d_Mo_append_145 rfl hq.g3 rfl (by omega) (by decide) ((zi_a (by omega)).trans ((zi_a (by omega)).trans q2)) ?_
            refine g_iconst (q := 147) (v := nI 1) hx d_Mo_append_146 rfl (by decide) ?_
            refine g_iadd (q := 148) hx d_Mo_append_147 rfl (nI_add _ _) ?_
            refine g_iast (q := 149) hx d_Mo_append_148 rfl hq.g3 rfl (by omega) (by decide) ?_
            refine g_aload_n (q := 150) hx d_Mo_append_149 rfl rfl ?_
            refine g_geta (q := 153) hx d_Mo_append_150 rfl fl_Mo_19 hq.g0 (hq.p4 hP) (by first | exact Nat.succ_ne_zero _ | omega) ?_
            refine g_iload_n (q := 154) hx d_Mo_append_153 rfl rfl ?_
            refine g_iload_n (q := 155) hx d_Mo_append_154 rfl rfl ?_
            refine g_if_ne (q := 158) (t := 169) hx d_Mo_append_155 rfl rfl (zb_ne0 (by omega)) (fun h155 => ?_) (fun h155 => ?_)
            · refine g_iload_n (q := 170) hx d_Mo_append_169 rfl rfl ?_
              refine g_iconst (q := 171) (v := nI 3) hx d_Mo_append_170 rfl (by decide) ?_
              refine g_icmp_ne (q := 174) (t := 183) hx d_Mo_append_171 rfl rfl (not_congr (nI_eq (by omega) (by omega))) (fun h171 => ?_) (fun h171 => ?_)
              · refine g_aload_n (q := 184) hx d_Mo_append_183 rfl rfl ?_
                refine g_geta (q := 187) hx d_Mo_append_184 rfl fl_Mo_19 hq.g0 (hq.p4 hP) (by first | exact Nat.succ_ne_zero _ | omega) ?_
                refine g_iload_n (q := 188) hx d_Mo_append_187 rfl rfl ?_
                refine g_iald (q := 189) hx d_Mo_append_188 rfl hq.g4 rfl (by omega) (by decide) ((zi_a (by omega)).trans ((zi_a (by omega)).trans ((zi_a (by omega)).trans (q3)))) ?_
                refine g_iconst (q := 190) (v := nI 1) hx d_Mo_append_189 rfl (by decide) ?_
                refine g_iadd (q := 191) hx d_Mo_append_190 rfl (nI_add _ _) ?_
                refine g_iast (q := 192) hx d_Mo_append_191 rfl hq.g4 rfl (by omega) (by decide) ?_
                refine g_aload_n (q := 193) hx d_Mo_append_192 rfl rfl ?_
                refine g_geta (q := 196) hx d_Mo_append_193 rfl fl_Mo_22 hq.g0 (hq.p5 hP) (by first | exact Nat.succ_ne_zero _ | omega) ?_
                refine g_iload_n (q := 197) hx d_Mo_append_196 rfl rfl ?_
                refine g_iload (q := 199) hx d_Mo_append_197 rfl rfl ?_
                refine g_if_eq (q := 202) (t := 213) hx d_Mo_append_199 rfl rfl (zb_eq0 (by omega)) (fun h199 => ?_) (fun h199 => ?_)
                · refine g_iload_n (q := 214) hx d_Mo_append_213 rfl rfl ?_
                  refine g_iconst (q := 215) (v := nI 1) hx d_Mo_append_214 rfl (by decide) ?_
                  refine g_icmp_ne (q := 218) (t := 229) hx d_Mo_append_215 rfl rfl (not_congr (nI_eq (by omega) (by omega))) (fun h215 => ?_) (fun h215 => ?_)
                  · refine g_aload_n (q := 230) hx d_Mo_append_229 rfl rfl ?_
                    refine g_geta (q := 233) hx d_Mo_append_230 rfl fl_Mo_22 hq.g0 (hq.p5 hP) (by first | exact Nat.succ_ne_zero _ | omega) ?_
                    refine g_iload_n (q := 234) hx d_Mo_append_233 rfl rfl ?_
                    refine g_iald (q := 235) hx d_Mo_append_234 rfl hq.g5 rfl (by omega) (by decide) ((zi_a (by omega)).trans ((zi_a (by omega)).trans ((zi_a (by omega)).trans ((zi_a (by omega)).trans (q4))))) ?_
                    refine g_iast (q := 236) hx d_Mo_append_235 rfl hq.g5 rfl (by omega) (by decide) ?_
                    exact g_vret hx d_Mo_append_236 rfl hQ ⟨Nat.le_refl _, Nat.le_refl _⟩ ⟨rfl, rfl, rfl, ((((kF.rf.sa rfl (by decide) (by decide)).sa rfl (by decide) (by decide)).sa rfl (by decide) (by decide)).sa rfl (by decide) (by decide)).sa rfl (by decide) (by decide), ((((kS.rf.t (by decide) (by omega)).t (by decide) (by omega)).s (by decide)).s (by decide)).s (by decide), (zi_a (by omega)).trans ((zi_a (by omega)).trans ((zi_a (by omega)).trans ((zi_a (by omega)).trans ((zi_a (by omega)).trans q1)))), by
                          rw [zi_a (by omega), zi_a (by omega), zi_s]
                          exact congrArg nI (mAdd_len' (e := (2, v)) hnj).symm, by
                          rw [zi_a (by omega), zi_s]
                          exact congrArg nI (mBc_add rd.2 (2, v)).symm, by
                          rw [zi_s]
                          exact congrArg nI (mPs_add rd.2 (2, v)).symm, fun j hj9 => by
                          have hl9 := mAdd_len' (e := (2, v)) hnj
                          have hj8 : j < rd.2.length + 1 := by rw [← hl9]; exact hj9
                          show _ = nI (mK (mAdd rd.2 (2, v)) j) ∧ _ = nI (mV (mAdd rd.2 (2, v)) j)
                          rw [mAdd_n (e := (2, v)) hnj]
                          refine ⟨?_, ?_⟩
                          · rw [zi_a (by omega), zi_a (by omega), zi_a (by omega), zi_a (by omega)]
                            by_cases e9 : j = rd.2.length
                            · subst e9; rw [zi_s, mK_hi]
                            · rw [zi_k (by omega), mK_lo (by omega)]; exact (q5 j (by omega)).1
                          · rw [zi_a (by omega), zi_a (by omega), zi_a (by omega)]
                            by_cases e9 : j = rd.2.length
                            · subst e9; rw [zi_s, mV_hi]
                            · rw [zi_k (by omega), zi_a (by omega), mV_lo (by omega)]; exact (q5 j (by omega)).2⟩
                  · exact absurd h215 (by omega)
                · exact absurd h199 (by omega)
              · exact absurd h171 (by omega)
            · exact absurd h155 (by omega)
          · exact absurd h61 (by omega)
        · exact absurd h18 (by omega)
      · exact absurd h6 (by omega)
  · refine g_iload_n (q := 1) hx d_Mo_append_0 rfl rfl ?_
    refine g_if_eq (q := 4) (t := 9) hx d_Mo_append_1 rfl rfl (zb_eq0 (by omega)) (fun h1 => ?_) (fun h1 => ?_)
    · exact absurd h1 (by omega)
    · refine g_iload_n (q := 5) hx d_Mo_append_4 rfl rfl ?_
      refine g_iconst (q := 6) (v := nI 3) hx d_Mo_append_5 rfl (by decide) ?_
      refine g_icmp_ne (q := 9) (t := 13) hx d_Mo_append_6 rfl rfl (not_congr (nI_eq (by omega) (by omega))) (fun h6 => ?_) (fun h6 => ?_)
      · exact absurd h6 (by omega)
      · refine g_iconst (q := 10) (v := nI 1) hx d_Mo_append_9 rfl (by decide) ?_
        refine g_goto (q := 14) hx d_Mo_append_10 rfl ?_
        refine g_istore (q := 16) (lc' := [(4, _), (0, _), (1, _), (2, _), (3, _)]) hx d_Mo_append_14 rfl (by decide) rfl ?_
        refine g_iload (q := 18) hx d_Mo_append_16 rfl rfl ?_
        refine g_if_eq (q := 21) (t := 56) hx d_Mo_append_18 rfl rfl (zb_eq0 (by omega)) (fun h18 => ?_) (fun h18 => ?_)
        · exact absurd h18 (by omega)
        · refine g_aload_n (q := 22) hx d_Mo_append_21 rfl rfl ?_
          refine g_geta (q := 25) hx d_Mo_append_22 rfl fl_Mo_16 hq.g0 (hq.p3 hP) (by first | exact Nat.succ_ne_zero _ | omega) ?_
          refine g_iload_n (q := 26) hx d_Mo_append_25 rfl rfl ?_
          refine g_iald (q := 27) hx d_Mo_append_26 rfl hq.g3 rfl (by omega) (by decide) q2 ?_
          refine g_if_le (q := 30) (t := 56) hx d_Mo_append_27 rfl rfl (zb_le0 (by omega)) (fun h27 => ?_) (fun h27 => ?_)
          · refine g_iconst (q := 57) (v := nI 0) hx d_Mo_append_56 rfl (by decide) ?_
            refine g_istore (q := 59) (lc' := [(5, _), (4, _), (0, _), (1, _), (2, _), (3, _)]) hx d_Mo_append_57 rfl (by decide) rfl ?_
            refine g_iload (q := 61) hx d_Mo_append_59 rfl rfl ?_
            refine g_if_eq (q := 64) (t := 105) hx d_Mo_append_61 rfl rfl (zb_eq0 (by omega)) (fun h61 => ?_) (fun h61 => ?_)
            · have hnj : ¬ mJn rd.2 3 := by unfold mJn; omega
              have h12l : rd.2.length < 12 := hroom.2.resolve_left hnj
              refine g_aload_n (q := 106) hx d_Mo_append_105 rfl rfl ?_
              refine g_geta (q := 109) hx d_Mo_append_106 rfl fl_Mo_25 hq.g0 (hq.p6 hP) (by first | exact Nat.succ_ne_zero _ | omega) ?_
              refine g_bipush (q := 111) (v := nI 12) hx d_Mo_append_109 rfl (by decide) ?_
              refine g_iload_n (q := 112) hx d_Mo_append_111 rfl rfl ?_
              refine g_imul (q := 113) hx d_Mo_append_112 rfl (pk_mul _ _) ?_
              refine g_aload_n (q := 114) hx d_Mo_append_113 rfl rfl ?_
              refine g_geta (q := 117) hx d_Mo_append_114 rfl fl_Mo_16 hq.g0 (hq.p3 hP) (by first | exact Nat.succ_ne_zero _ | omega) ?_
              refine g_iload_n (q := 118) hx d_Mo_append_117 rfl rfl ?_
              refine g_iald (q := 119) hx d_Mo_append_118 rfl hq.g3 rfl (by omega) (by decide) q2 ?_
              refine g_iadd (q := 120) hx d_Mo_append_119 rfl (nI_add _ _) ?_
              refine g_iload_n (q := 121) hx d_Mo_append_120 rfl rfl ?_
              refine g_iast (q := 122) hx d_Mo_append_121 rfl hq.g6 rfl (by omega) (by decide) ?_
              refine g_aload_n (q := 123) hx d_Mo_append_122 rfl rfl ?_
              refine g_geta (q := 126) hx d_Mo_append_123 rfl fl_Mo_28 hq.g0 (hq.p7 hP) (by first | exact Nat.succ_ne_zero _ | omega) ?_
              refine g_bipush (q := 128) (v := nI 12) hx d_Mo_append_126 rfl (by decide) ?_
              refine g_iload_n (q := 129) hx d_Mo_append_128 rfl rfl ?_
              refine g_imul (q := 130) hx d_Mo_append_129 rfl (pk_mul _ _) ?_
              refine g_aload_n (q := 131) hx d_Mo_append_130 rfl rfl ?_
              refine g_geta (q := 134) hx d_Mo_append_131 rfl fl_Mo_16 hq.g0 (hq.p3 hP) (by first | exact Nat.succ_ne_zero _ | omega) ?_
              refine g_iload_n (q := 135) hx d_Mo_append_134 rfl rfl ?_
              refine g_iald (q := 136) hx d_Mo_append_135 rfl hq.g3 rfl (by omega) (by decide) ((zi_a (by omega)).trans q2) ?_
              refine g_iadd (q := 137) hx d_Mo_append_136 rfl (nI_add _ _) ?_
              refine g_iload_n (q := 138) hx d_Mo_append_137 rfl rfl ?_
              refine g_iast (q := 139) hx d_Mo_append_138 rfl hq.g7 rfl (by omega) (by decide) ?_
              refine g_aload_n (q := 140) hx d_Mo_append_139 rfl rfl ?_
              refine g_geta (q := 143) hx d_Mo_append_140 rfl fl_Mo_16 hq.g0 (hq.p3 hP) (by first | exact Nat.succ_ne_zero _ | omega) ?_
              refine g_iload_n (q := 144) hx d_Mo_append_143 rfl rfl ?_
              refine g_dup2 (q := 145) hx d_Mo_append_144 rfl rfl rfl ?_
              refine g_iald (q := 146) hx d_Mo_append_145 rfl hq.g3 rfl (by omega) (by decide) ((zi_a (by omega)).trans ((zi_a (by omega)).trans q2)) ?_
              refine g_iconst (q := 147) (v := nI 1) hx d_Mo_append_146 rfl (by decide) ?_
              refine g_iadd (q := 148) hx d_Mo_append_147 rfl (nI_add _ _) ?_
              refine g_iast (q := 149) hx d_Mo_append_148 rfl hq.g3 rfl (by omega) (by decide) ?_
              refine g_aload_n (q := 150) hx d_Mo_append_149 rfl rfl ?_
              refine g_geta (q := 153) hx d_Mo_append_150 rfl fl_Mo_19 hq.g0 (hq.p4 hP) (by first | exact Nat.succ_ne_zero _ | omega) ?_
              refine g_iload_n (q := 154) hx d_Mo_append_153 rfl rfl ?_
              refine g_iload_n (q := 155) hx d_Mo_append_154 rfl rfl ?_
              refine g_if_ne (q := 158) (t := 169) hx d_Mo_append_155 rfl rfl (zb_ne0 (by omega)) (fun h155 => ?_) (fun h155 => ?_)
              · refine g_iload_n (q := 170) hx d_Mo_append_169 rfl rfl ?_
                refine g_iconst (q := 171) (v := nI 3) hx d_Mo_append_170 rfl (by decide) ?_
                refine g_icmp_ne (q := 174) (t := 183) hx d_Mo_append_171 rfl rfl (not_congr (nI_eq (by omega) (by omega))) (fun h171 => ?_) (fun h171 => ?_)
                · exact absurd h171 (by omega)
                · refine g_aload_n (q := 175) hx d_Mo_append_174 rfl rfl ?_
                  refine g_geta (q := 178) hx d_Mo_append_175 rfl fl_Mo_19 hq.g0 (hq.p4 hP) (by first | exact Nat.succ_ne_zero _ | omega) ?_
                  refine g_iload_n (q := 179) hx d_Mo_append_178 rfl rfl ?_
                  refine g_iald (q := 180) hx d_Mo_append_179 rfl hq.g4 rfl (by omega) (by decide) ((zi_a (by omega)).trans ((zi_a (by omega)).trans ((zi_a (by omega)).trans (q3)))) ?_
                  refine g_goto (q := 191) hx d_Mo_append_180 rfl ?_
                  refine g_iast (q := 192) hx d_Mo_append_191 rfl hq.g4 rfl (by omega) (by decide) ?_
                  refine g_aload_n (q := 193) hx d_Mo_append_192 rfl rfl ?_
                  refine g_geta (q := 196) hx d_Mo_append_193 rfl fl_Mo_22 hq.g0 (hq.p5 hP) (by first | exact Nat.succ_ne_zero _ | omega) ?_
                  refine g_iload_n (q := 197) hx d_Mo_append_196 rfl rfl ?_
                  refine g_iload (q := 199) hx d_Mo_append_197 rfl rfl ?_
                  refine g_if_eq (q := 202) (t := 213) hx d_Mo_append_199 rfl rfl (zb_eq0 (by omega)) (fun h199 => ?_) (fun h199 => ?_)
                  · exact absurd h199 (by omega)
                  · refine g_aload_n (q := 203) hx d_Mo_append_202 rfl rfl ?_
                    refine g_geta (q := 206) hx d_Mo_append_203 rfl fl_Mo_22 hq.g0 (hq.p5 hP) (by first | exact Nat.succ_ne_zero _ | omega) ?_
                    refine g_iload_n (q := 207) hx d_Mo_append_206 rfl rfl ?_
                    refine g_iald (q := 208) hx d_Mo_append_207 rfl hq.g5 rfl (by omega) (by decide) ((zi_a (by omega)).trans ((zi_a (by omega)).trans ((zi_a (by omega)).trans ((zi_a (by omega)).trans (q4))))) ?_
                    refine g_iload_n (q := 209) hx d_Mo_append_208 rfl rfl ?_
                    refine g_iadd (q := 210) hx d_Mo_append_209 rfl (nI_add _ _) ?_
                    refine g_goto (q := 235) hx d_Mo_append_210 rfl ?_
                    refine g_iast (q := 236) hx d_Mo_append_235 rfl hq.g5 rfl (by omega) (by decide) ?_
                    exact g_vret hx d_Mo_append_236 rfl hQ ⟨Nat.le_refl _, Nat.le_refl _⟩ ⟨rfl, rfl, rfl, ((((kF.rf.sa rfl (by decide) (by decide)).sa rfl (by decide) (by decide)).sa rfl (by decide) (by decide)).sa rfl (by decide) (by decide)).sa rfl (by decide) (by decide), ((((kS.rf.t (by decide) (by omega)).t (by decide) (by omega)).s (by decide)).s (by decide)).s (by decide), (zi_a (by omega)).trans ((zi_a (by omega)).trans ((zi_a (by omega)).trans ((zi_a (by omega)).trans ((zi_a (by omega)).trans q1)))), by
                          rw [zi_a (by omega), zi_a (by omega), zi_s]
                          exact congrArg nI (mAdd_len' (e := (3, v)) hnj).symm, by
                          rw [zi_a (by omega), zi_s]
                          exact congrArg nI (mBc_add rd.2 (3, v)).symm, by
                          rw [zi_s]
                          exact congrArg nI (mPs_add rd.2 (3, v)).symm, fun j hj9 => by
                          have hl9 := mAdd_len' (e := (3, v)) hnj
                          have hj8 : j < rd.2.length + 1 := by rw [← hl9]; exact hj9
                          show _ = nI (mK (mAdd rd.2 (3, v)) j) ∧ _ = nI (mV (mAdd rd.2 (3, v)) j)
                          rw [mAdd_n (e := (3, v)) hnj]
                          refine ⟨?_, ?_⟩
                          · rw [zi_a (by omega), zi_a (by omega), zi_a (by omega), zi_a (by omega)]
                            by_cases e9 : j = rd.2.length
                            · subst e9; rw [zi_s, mK_hi]
                            · rw [zi_k (by omega), mK_lo (by omega)]; exact (q5 j (by omega)).1
                          · rw [zi_a (by omega), zi_a (by omega), zi_a (by omega)]
                            by_cases e9 : j = rd.2.length
                            · subst e9; rw [zi_s, mV_hi]
                            · rw [zi_k (by omega), zi_a (by omega), mV_lo (by omega)]; exact (q5 j (by omega)).2⟩
              · exact absurd h155 (by omega)
            · exact absurd h61 (by omega)
          · refine g_aload_n (q := 31) hx d_Mo_append_30 rfl rfl ?_
            refine g_geta (q := 34) hx d_Mo_append_31 rfl fl_Mo_25 hq.g0 (hq.p6 hP) (by first | exact Nat.succ_ne_zero _ | omega) ?_
            refine g_bipush (q := 36) (v := nI 12) hx d_Mo_append_34 rfl (by decide) ?_
            refine g_iload_n (q := 37) hx d_Mo_append_36 rfl rfl ?_
            refine g_imul (q := 38) hx d_Mo_append_37 rfl (pk_mul _ _) ?_
            refine g_aload_n (q := 39) hx d_Mo_append_38 rfl rfl ?_
            refine g_geta (q := 42) hx d_Mo_append_39 rfl fl_Mo_16 hq.g0 (hq.p3 hP) (by first | exact Nat.succ_ne_zero _ | omega) ?_
            refine g_iload_n (q := 43) hx d_Mo_append_42 rfl rfl ?_
            refine g_iald (q := 44) hx d_Mo_append_43 rfl hq.g3 rfl (by omega) (by decide) q2 ?_
            refine g_iadd (q := 45) hx d_Mo_append_44 rfl (nI_add _ _) ?_
            refine g_iconst (q := 46) (v := nI 1) hx d_Mo_append_45 rfl (by decide) ?_
            refine g_isub (q := 47) hx d_Mo_append_46 rfl (pk_sub (by omega)) ?_
            refine g_iald (q := 48) hx d_Mo_append_47 rfl hq.g6 (congrArg nI (by omega : 12 * r + rd.2.length - 1 = 12 * r + (rd.2.length - 1))) (by omega) (by decide) (q5b (by omega)).1 ?_
            refine g_iload_n (q := 49) hx d_Mo_append_48 rfl rfl ?_
            refine g_icmp_ne (q := 52) (t := 56) hx d_Mo_append_49 rfl rfl (not_congr (nI_eq (by omega) (by omega))) (fun h49 => ?_) (fun h49 => ?_)
            · refine g_iconst (q := 57) (v := nI 0) hx d_Mo_append_56 rfl (by decide) ?_
              refine g_istore (q := 59) (lc' := [(5, _), (4, _), (0, _), (1, _), (2, _), (3, _)]) hx d_Mo_append_57 rfl (by decide) rfl ?_
              refine g_iload (q := 61) hx d_Mo_append_59 rfl rfl ?_
              refine g_if_eq (q := 64) (t := 105) hx d_Mo_append_61 rfl rfl (zb_eq0 (by omega)) (fun h61 => ?_) (fun h61 => ?_)
              · have hnj : ¬ mJn rd.2 3 := by unfold mJn; omega
                have h12l : rd.2.length < 12 := hroom.2.resolve_left hnj
                refine g_aload_n (q := 106) hx d_Mo_append_105 rfl rfl ?_
                refine g_geta (q := 109) hx d_Mo_append_106 rfl fl_Mo_25 hq.g0 (hq.p6 hP) (by first | exact Nat.succ_ne_zero _ | omega) ?_
                refine g_bipush (q := 111) (v := nI 12) hx d_Mo_append_109 rfl (by decide) ?_
                refine g_iload_n (q := 112) hx d_Mo_append_111 rfl rfl ?_
                refine g_imul (q := 113) hx d_Mo_append_112 rfl (pk_mul _ _) ?_
                refine g_aload_n (q := 114) hx d_Mo_append_113 rfl rfl ?_
                refine g_geta (q := 117) hx d_Mo_append_114 rfl fl_Mo_16 hq.g0 (hq.p3 hP) (by first | exact Nat.succ_ne_zero _ | omega) ?_
                refine g_iload_n (q := 118) hx d_Mo_append_117 rfl rfl ?_
                refine g_iald (q := 119) hx d_Mo_append_118 rfl hq.g3 rfl (by omega) (by decide) q2 ?_
                refine g_iadd (q := 120) hx d_Mo_append_119 rfl (nI_add _ _) ?_
                refine g_iload_n (q := 121) hx d_Mo_append_120 rfl rfl ?_
                refine g_iast (q := 122) hx d_Mo_append_121 rfl hq.g6 rfl (by omega) (by decide) ?_
                refine g_aload_n (q := 123) hx d_Mo_append_122 rfl rfl ?_
                refine g_geta (q := 126) hx d_Mo_append_123 rfl fl_Mo_28 hq.g0 (hq.p7 hP) (by first | exact Nat.succ_ne_zero _ | omega) ?_
                refine g_bipush (q := 128) (v := nI 12) hx d_Mo_append_126 rfl (by decide) ?_
                refine g_iload_n (q := 129) hx d_Mo_append_128 rfl rfl ?_
                refine g_imul (q := 130) hx d_Mo_append_129 rfl (pk_mul _ _) ?_
                refine g_aload_n (q := 131) hx d_Mo_append_130 rfl rfl ?_
                refine g_geta (q := 134) hx d_Mo_append_131 rfl fl_Mo_16 hq.g0 (hq.p3 hP) (by first | exact Nat.succ_ne_zero _ | omega) ?_
                refine g_iload_n (q := 135) hx d_Mo_append_134 rfl rfl ?_
                refine g_iald (q := 136) hx d_Mo_append_135 rfl hq.g3 rfl (by omega) (by decide) ((zi_a (by omega)).trans q2) ?_
                refine g_iadd (q := 137) hx d_Mo_append_136 rfl (nI_add _ _) ?_
                refine g_iload_n (q := 138) hx d_Mo_append_137 rfl rfl ?_
                refine g_iast (q := 139) hx d_Mo_append_138 rfl hq.g7 rfl (by omega) (by decide) ?_
                refine g_aload_n (q := 140) hx d_Mo_append_139 rfl rfl ?_
                refine g_geta (q := 143) hx d_Mo_append_140 rfl fl_Mo_16 hq.g0 (hq.p3 hP) (by first | exact Nat.succ_ne_zero _ | omega) ?_
                refine g_iload_n (q := 144) hx d_Mo_append_143 rfl rfl ?_
                refine g_dup2 (q := 145) hx d_Mo_append_144 rfl rfl rfl ?_
                refine g_iald (q := 146) hx d_Mo_append_145 rfl hq.g3 rfl (by omega) (by decide) ((zi_a (by omega)).trans ((zi_a (by omega)).trans q2)) ?_
                refine g_iconst (q := 147) (v := nI 1) hx d_Mo_append_146 rfl (by decide) ?_
                refine g_iadd (q := 148) hx d_Mo_append_147 rfl (nI_add _ _) ?_
                refine g_iast (q := 149) hx d_Mo_append_148 rfl hq.g3 rfl (by omega) (by decide) ?_
                refine g_aload_n (q := 150) hx d_Mo_append_149 rfl rfl ?_
                refine g_geta (q := 153) hx d_Mo_append_150 rfl fl_Mo_19 hq.g0 (hq.p4 hP) (by first | exact Nat.succ_ne_zero _ | omega) ?_
                refine g_iload_n (q := 154) hx d_Mo_append_153 rfl rfl ?_
                refine g_iload_n (q := 155) hx d_Mo_append_154 rfl rfl ?_
                refine g_if_ne (q := 158) (t := 169) hx d_Mo_append_155 rfl rfl (zb_ne0 (by omega)) (fun h155 => ?_) (fun h155 => ?_)
                · refine g_iload_n (q := 170) hx d_Mo_append_169 rfl rfl ?_
                  refine g_iconst (q := 171) (v := nI 3) hx d_Mo_append_170 rfl (by decide) ?_
                  refine g_icmp_ne (q := 174) (t := 183) hx d_Mo_append_171 rfl rfl (not_congr (nI_eq (by omega) (by omega))) (fun h171 => ?_) (fun h171 => ?_)
                  · exact absurd h171 (by omega)
                  · refine g_aload_n (q := 175) hx d_Mo_append_174 rfl rfl ?_
                    refine g_geta (q := 178) hx d_Mo_append_175 rfl fl_Mo_19 hq.g0 (hq.p4 hP) (by first | exact Nat.succ_ne_zero _ | omega) ?_
                    refine g_iload_n (q := 179) hx d_Mo_append_178 rfl rfl ?_
                    refine g_iald (q := 180) hx d_Mo_append_179 rfl hq.g4 rfl (by omega) (by decide) ((zi_a (by omega)).trans ((zi_a (by omega)).trans ((zi_a (by omega)).trans (q3)))) ?_
                    refine g_goto (q := 191) hx d_Mo_append_180 rfl ?_
                    refine g_iast (q := 192) hx d_Mo_append_191 rfl hq.g4 rfl (by omega) (by decide) ?_
                    refine g_aload_n (q := 193) hx d_Mo_append_192 rfl rfl ?_
                    refine g_geta (q := 196) hx d_Mo_append_193 rfl fl_Mo_22 hq.g0 (hq.p5 hP) (by first | exact Nat.succ_ne_zero _ | omega) ?_
                    refine g_iload_n (q := 197) hx d_Mo_append_196 rfl rfl ?_
                    refine g_iload (q := 199) hx d_Mo_append_197 rfl rfl ?_
                    refine g_if_eq (q := 202) (t := 213) hx d_Mo_append_199 rfl rfl (zb_eq0 (by omega)) (fun h199 => ?_) (fun h199 => ?_)
                    · exact absurd h199 (by omega)
                    · refine g_aload_n (q := 203) hx d_Mo_append_202 rfl rfl ?_
                      refine g_geta (q := 206) hx d_Mo_append_203 rfl fl_Mo_22 hq.g0 (hq.p5 hP) (by first | exact Nat.succ_ne_zero _ | omega) ?_
                      refine g_iload_n (q := 207) hx d_Mo_append_206 rfl rfl ?_
                      refine g_iald (q := 208) hx d_Mo_append_207 rfl hq.g5 rfl (by omega) (by decide) ((zi_a (by omega)).trans ((zi_a (by omega)).trans ((zi_a (by omega)).trans ((zi_a (by omega)).trans (q4))))) ?_
                      refine g_iload_n (q := 209) hx d_Mo_append_208 rfl rfl ?_
                      refine g_iadd (q := 210) hx d_Mo_append_209 rfl (nI_add _ _) ?_
                      refine g_goto (q := 235) hx d_Mo_append_210 rfl ?_
                      refine g_iast (q := 236) hx d_Mo_append_235 rfl hq.g5 rfl (by omega) (by decide) ?_
                      exact g_vret hx d_Mo_append_236 rfl hQ ⟨Nat.le_refl _, Nat.le_refl _⟩ ⟨rfl, rfl, rfl, ((((kF.rf.sa rfl (by decide) (by decide)).sa rfl (by decide) (by decide)).sa rfl (by decide) (by decide)).sa rfl (by decide) (by decide)).sa rfl (by decide) (by decide), ((((kS.rf.t (by decide) (by omega)).t (by decide) (by omega)).s (by decide)).s (by decide)).s (by decide), (zi_a (by omega)).trans ((zi_a (by omega)).trans ((zi_a (by omega)).trans ((zi_a (by omega)).trans ((zi_a (by omega)).trans q1)))), by
                            rw [zi_a (by omega), zi_a (by omega), zi_s]
                            exact congrArg nI (mAdd_len' (e := (3, v)) hnj).symm, by
                            rw [zi_a (by omega), zi_s]
                            exact congrArg nI (mBc_add rd.2 (3, v)).symm, by
                            rw [zi_s]
                            exact congrArg nI (mPs_add rd.2 (3, v)).symm, fun j hj9 => by
                            have hl9 := mAdd_len' (e := (3, v)) hnj
                            have hj8 : j < rd.2.length + 1 := by rw [← hl9]; exact hj9
                            show _ = nI (mK (mAdd rd.2 (3, v)) j) ∧ _ = nI (mV (mAdd rd.2 (3, v)) j)
                            rw [mAdd_n (e := (3, v)) hnj]
                            refine ⟨?_, ?_⟩
                            · rw [zi_a (by omega), zi_a (by omega), zi_a (by omega), zi_a (by omega)]
                              by_cases e9 : j = rd.2.length
                              · subst e9; rw [zi_s, mK_hi]
                              · rw [zi_k (by omega), mK_lo (by omega)]; exact (q5 j (by omega)).1
                            · rw [zi_a (by omega), zi_a (by omega), zi_a (by omega)]
                              by_cases e9 : j = rd.2.length
                              · subst e9; rw [zi_s, mV_hi]
                              · rw [zi_k (by omega), zi_a (by omega), mV_lo (by omega)]; exact (q5 j (by omega)).2⟩
                · exact absurd h155 (by omega)
              · exact absurd h61 (by omega)
            · refine g_iconst (q := 53) (v := nI 1) hx d_Mo_append_52 rfl (by decide) ?_
              refine g_goto (q := 57) hx d_Mo_append_53 rfl ?_
              refine g_istore (q := 59) (lc' := [(5, _), (4, _), (0, _), (1, _), (2, _), (3, _)]) hx d_Mo_append_57 rfl (by decide) rfl ?_
              refine g_iload (q := 61) hx d_Mo_append_59 rfl rfl ?_
              refine g_if_eq (q := 64) (t := 105) hx d_Mo_append_61 rfl rfl (zb_eq0 (by omega)) (fun h61 => ?_) (fun h61 => ?_)
              · exact absurd h61 (by omega)
              · have hj : mJn rd.2 3 := by unfold mJn; omega
                refine g_aload_n (q := 65) hx d_Mo_append_64 rfl rfl ?_
                refine g_geta (q := 68) hx d_Mo_append_65 rfl fl_Mo_28 hq.g0 (hq.p7 hP) (by first | exact Nat.succ_ne_zero _ | omega) ?_
                refine g_bipush (q := 70) (v := nI 12) hx d_Mo_append_68 rfl (by decide) ?_
                refine g_iload_n (q := 71) hx d_Mo_append_70 rfl rfl ?_
                refine g_imul (q := 72) hx d_Mo_append_71 rfl (pk_mul _ _) ?_
                refine g_aload_n (q := 73) hx d_Mo_append_72 rfl rfl ?_
                refine g_geta (q := 76) hx d_Mo_append_73 rfl fl_Mo_16 hq.g0 (hq.p3 hP) (by first | exact Nat.succ_ne_zero _ | omega) ?_
                refine g_iload_n (q := 77) hx d_Mo_append_76 rfl rfl ?_
                refine g_iald (q := 78) hx d_Mo_append_77 rfl hq.g3 rfl (by omega) (by decide) q2 ?_
                refine g_iadd (q := 79) hx d_Mo_append_78 rfl (nI_add _ _) ?_
                refine g_iconst (q := 80) (v := nI 1) hx d_Mo_append_79 rfl (by decide) ?_
                refine g_isub (q := 81) hx d_Mo_append_80 rfl (pk_sub (by omega)) ?_
                refine g_aload_n (q := 82) hx d_Mo_append_81 rfl rfl ?_
                refine g_geta (q := 85) hx d_Mo_append_82 rfl fl_Mo_28 hq.g0 (hq.p7 hP) (by first | exact Nat.succ_ne_zero _ | omega) ?_
                refine g_bipush (q := 87) (v := nI 12) hx d_Mo_append_85 rfl (by decide) ?_
                refine g_iload_n (q := 88) hx d_Mo_append_87 rfl rfl ?_
                refine g_imul (q := 89) hx d_Mo_append_88 rfl (pk_mul _ _) ?_
                refine g_aload_n (q := 90) hx d_Mo_append_89 rfl rfl ?_
                refine g_geta (q := 93) hx d_Mo_append_90 rfl fl_Mo_16 hq.g0 (hq.p3 hP) (by first | exact Nat.succ_ne_zero _ | omega) ?_
                refine g_iload_n (q := 94) hx d_Mo_append_93 rfl rfl ?_
                refine g_iald (q := 95) hx d_Mo_append_94 rfl hq.g3 rfl (by omega) (by decide) q2 ?_
                refine g_iadd (q := 96) hx d_Mo_append_95 rfl (nI_add _ _) ?_
                refine g_iconst (q := 97) (v := nI 1) hx d_Mo_append_96 rfl (by decide) ?_
                refine g_isub (q := 98) hx d_Mo_append_97 rfl (pk_sub (by omega)) ?_
                refine g_iald (q := 99) hx d_Mo_append_98 rfl hq.g7 (congrArg nI (by omega : 12 * r + rd.2.length - 1 = 12 * r + (rd.2.length - 1))) (by omega) (by decide) (q5b (by omega)).2 ?_
                refine g_iload_n (q := 100) hx d_Mo_append_99 rfl rfl ?_
                refine g_iadd (q := 101) hx d_Mo_append_100 rfl (nI_add _ _) ?_
                refine g_iast (q := 102) hx d_Mo_append_101 rfl hq.g7 (congrArg nI (by omega : 12 * r + rd.2.length - 1 = 12 * r + (rd.2.length - 1))) (by omega) (by decide) ?_
                refine g_goto (q := 149) hx d_Mo_append_102 rfl ?_
                refine g_aload_n (q := 150) hx d_Mo_append_149 rfl rfl ?_
                refine g_geta (q := 153) hx d_Mo_append_150 rfl fl_Mo_19 hq.g0 (hq.p4 hP) (by first | exact Nat.succ_ne_zero _ | omega) ?_
                refine g_iload_n (q := 154) hx d_Mo_append_153 rfl rfl ?_
                refine g_iload_n (q := 155) hx d_Mo_append_154 rfl rfl ?_
                refine g_if_ne (q := 158) (t := 169) hx d_Mo_append_155 rfl rfl (zb_ne0 (by omega)) (fun h155 => ?_) (fun h155 => ?_)
                · refine g_iload_n (q := 170) hx d_Mo_append_169 rfl rfl ?_
                  refine g_iconst (q := 171) (v := nI 3) hx d_Mo_append_170 rfl (by decide) ?_
                  refine g_icmp_ne (q := 174) (t := 183) hx d_Mo_append_171 rfl rfl (not_congr (nI_eq (by omega) (by omega))) (fun h171 => ?_) (fun h171 => ?_)
                  · exact absurd h171 (by omega)
                  · refine g_aload_n (q := 175) hx d_Mo_append_174 rfl rfl ?_
                    refine g_geta (q := 178) hx d_Mo_append_175 rfl fl_Mo_19 hq.g0 (hq.p4 hP) (by first | exact Nat.succ_ne_zero _ | omega) ?_
                    refine g_iload_n (q := 179) hx d_Mo_append_178 rfl rfl ?_
                    refine g_iald (q := 180) hx d_Mo_append_179 rfl hq.g4 rfl (by omega) (by decide) ((zi_a (by omega)).trans (q3)) ?_
                    refine g_goto (q := 191) hx d_Mo_append_180 rfl ?_
                    refine g_iast (q := 192) hx d_Mo_append_191 rfl hq.g4 rfl (by omega) (by decide) ?_
                    refine g_aload_n (q := 193) hx d_Mo_append_192 rfl rfl ?_
                    refine g_geta (q := 196) hx d_Mo_append_193 rfl fl_Mo_22 hq.g0 (hq.p5 hP) (by first | exact Nat.succ_ne_zero _ | omega) ?_
                    refine g_iload_n (q := 197) hx d_Mo_append_196 rfl rfl ?_
                    refine g_iload (q := 199) hx d_Mo_append_197 rfl rfl ?_
                    refine g_if_eq (q := 202) (t := 213) hx d_Mo_append_199 rfl rfl (zb_eq0 (by omega)) (fun h199 => ?_) (fun h199 => ?_)
                    · exact absurd h199 (by omega)
                    · refine g_aload_n (q := 203) hx d_Mo_append_202 rfl rfl ?_
                      refine g_geta (q := 206) hx d_Mo_append_203 rfl fl_Mo_22 hq.g0 (hq.p5 hP) (by first | exact Nat.succ_ne_zero _ | omega) ?_
                      refine g_iload_n (q := 207) hx d_Mo_append_206 rfl rfl ?_
                      refine g_iald (q := 208) hx d_Mo_append_207 rfl hq.g5 rfl (by omega) (by decide) ((zi_a (by omega)).trans ((zi_a (by omega)).trans (q4))) ?_
                      refine g_iload_n (q := 209) hx d_Mo_append_208 rfl rfl ?_
                      refine g_iadd (q := 210) hx d_Mo_append_209 rfl (nI_add _ _) ?_
                      refine g_goto (q := 235) hx d_Mo_append_210 rfl ?_
                      refine g_iast (q := 236) hx d_Mo_append_235 rfl hq.g5 rfl (by omega) (by decide) ?_
                      exact g_vret hx d_Mo_append_236 rfl hQ ⟨Nat.le_refl _, Nat.le_refl _⟩ ⟨rfl, rfl, rfl, ((kF.rf.sa rfl (by decide) (by decide)).sa rfl (by decide) (by decide)).sa rfl (by decide) (by decide), ((kS.rf.t (by decide) (by omega)).s (by decide)).s (by decide), (zi_a (by omega)).trans ((zi_a (by omega)).trans ((zi_a (by omega)).trans q1)), by
                            rw [zi_a (by omega), zi_a (by omega), zi_a (by omega), q2]
                            exact congrArg nI (mAdd_len (e := (3, v)) hj).symm, by
                            rw [zi_a (by omega), zi_s]
                            exact congrArg nI (mBc_add rd.2 (3, v)).symm, by
                            rw [zi_s]
                            exact congrArg nI (mPs_add rd.2 (3, v)).symm, fun j hj9 => by
                            have hl9 := mAdd_len (e := (3, v)) hj
                            have hj8 : j < rd.2.length := by rw [← hl9]; exact hj9
                            rw [zi_a (by omega), zi_a (by omega), zi_a (by omega), zi_a (by omega), zi_a (by omega)]
                            refine ⟨(q5 j hj8).1.trans (congrArg nI (mAdd_K (e := (3, v)) hj hj8).symm), ?_⟩
                            by_cases e9 : j = rd.2.length - 1
                            · subst e9
                              rw [zi_s]
                              exact congrArg nI (mAdd_Vl (e := (3, v)) hj).symm
                            · rw [zi_k (by omega)]
                              exact (q5 j hj8).2.trans (congrArg nI (mAdd_V (e := (3, v)) hj (by omega)).symm)⟩
                · exact absurd h155 (by omega)
