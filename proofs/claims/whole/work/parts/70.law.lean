/-! the law's loop, and its beginning -/
theorem z15 {x : Int32} : x.toInt < 0 ∨ 14 < x.toInt ∨ ∃ j : Nat, j < 15 ∧ x = nI j := by
  rcases pk_ix x (n := 15) (by omega) with h | h | h
  · refine Or.inl ?_
    have := Int32.lt_iff_toInt_lt.mp h
    simpa using this
  · refine Or.inr (Or.inl ?_)
    have := Int32.le_iff_toInt_le.mp h
    rw [nI_toInt (by omega)] at this
    omega
  · exact Or.inr (Or.inr h)
theorem z_gt4 {L i : Nat} (hL : L ≤ 2048) (hi : i ≤ 2048) : (nI L - nI 4 < nI i) ↔ L < i + 4 := by
  by_cases h : 4 ≤ L
  · rw [pk_sub h]
    refine (nI_ltI (by omega) (by omega)).trans ?_
    omega
  · have h3 : (nI L - nI 4).toInt < 0 := by
      have h4 : L = 0 ∨ L = 1 ∨ L = 2 ∨ L = 3 := by omega
      rcases h4 with rfl | rfl | rfl | rfl <;> decide
    rw [Int32.lt_iff_toInt_lt, nI_toInt (by omega)]
    omega
set_option maxHeartbeats 4000000 in
set_option maxRecDepth 100000 in
theorem l_loop {f : zF} {E : zE} (hx : zOk f E Y_La_law 9 (601024, 7293034)) (hl : (zll f.1).stackTraces = false) {b L : Nat} {xs : Nat → Int32} (hX : zX0 f E b L xs) {Γ : zG} {x m o : Nat} (hG : lG Γ x m o)
    (hE : ∀ (n : Nat) (k : Nat × Nat) (M : zM) (lc : List (Nat × Value)), k.1 ≤ 601024 → k.2 ≤ 7293034 → zGo f E Γ n k M 814 lc [.int (nI 1)]) :
    ∀ (i : Nat) (M : zM), ∀ (n : Nat) (k : Nat × Nat) (V : sV), i ≤ 2048 → k.1 ≤ 156 + i → k.2 ≤ 12974 + 6 * i → lI Γ x m M V → zGo f E Γ n k M 23 [(4, .int (nI i)), (3, .ref o), (2, .ref m), (1, .ref x), (0, .ref b)] [] := by
  have hL := hX.2.2.2
  refine z_lp (fun i => 2052 - i) _ ?_
  intro i M ih n k V hi hk1 hk2 hI
  refine g_iload (q := 25) hx d_La_law_23 rfl rfl ?_
  refine g_aload_n (q := 26) hx d_La_law_25 rfl rfl ?_
  refine g_slen (q := 27) hx hX d_La_law_26 rfl ?_
  refine g_iconst (q := 28) (v := nI 4) hx d_La_law_27 rfl (by decide) ?_
  refine g_isub (q := 29) hx d_La_law_28 rfl rfl ?_
  refine g_icmp_gt (q := 32) (t := 813) hx d_La_law_29 rfl rfl (z_gt4 hL hi) (fun h29 => ?_) (fun h29 => ?_)
  · refine g_iconst (q := 814) (v := nI 1) hx d_La_law_813 rfl (by decide) ?_
    exact hE _ _ _ _ (by omega) (by omega)
  · refine g_aload_n (q := 33) hx d_La_law_32 rfl rfl ?_
    refine g_iload (q := 35) hx d_La_law_33 rfl rfl ?_
    refine g_sld (q := 36) i hx hX d_La_law_35 rfl rfl (by omega) ?_
    refine g_bipush (q := 38) (v := nI 15) hx d_La_law_36 rfl (by decide) ?_
    refine g_iand (q := 39) hx d_La_law_38 rfl rfl ?_
    have kk9 : lN9 f E Γ x m k [(4, .int (nI i)), (3, .ref o), (2, .ref m), (1, .ref x), (0, .ref b)] := fun n' k' M' V' hI' h1 h2 => by
      refine g_iinc (q := 810) (lc' := [(4, _), (3, _), (2, _), (1, _), (0, _)]) hx d_La_law_807 rfl rfl (z_inc4 _) (by decide) rfl ?_
      refine g_goto (q := 23) hx d_La_law_810 rfl ?_
      exact ih (i + 4) M' (by omega) n' k' V' (by omega) (by omega) (by omega) hI'
    rcases z15 (x := xs i &&& nI 15) with h | h | ⟨j, hj, h⟩
    · exact g_tabOut (t := 807) hx d_La_law_39 (Or.inl h) rfl (kk9 n k M V hI (by omega) (by omega))
    · exact g_tabOut (t := 807) hx d_La_law_39 (Or.inr h) rfl (kk9 n k M V hI (by omega) (by omega))
    · rw [h]
      have hj15 : j = 0 ∨ j = 1 ∨ j = 2 ∨ j = 3 ∨ j = 4 ∨ j = 5 ∨ j = 6 ∨ j = 7 ∨ j = 8 ∨ j = 9 ∨ j = 10 ∨ j = 11 ∨ j = 12 ∨ j = 13 ∨ j = 14 := by omega
      rcases hj15 with rfl | rfl | rfl | rfl | rfl | rfl | rfl | rfl | rfl | rfl | rfl | rfl | rfl | rfl | rfl
      · exact g_tabIn (off := 73) (t := 112) hx d_La_law_39 (by rw [nI_toInt (by omega)]; omega) (by rw [nI_toInt (by omega)]; omega) (by rw [nI_toInt (by omega)]; rfl) rfl (l_refer hx hl hX hG n k M V hI i (by omega) (by first | omega | (dsimp only; omega)) (by first | omega | (dsimp only; omega)) kk9)
      · exact g_tabIn (off := 141) (t := 180) hx d_La_law_39 (by rw [nI_toInt (by omega)]; omega) (by rw [nI_toInt (by omega)]; omega) (by rw [nI_toInt (by omega)]; rfl) rfl (l_clear hx hl hX hG n k M V hI i (by omega) (by first | omega | (dsimp only; omega)) (by first | omega | (dsimp only; omega)) kk9)
      · exact g_tabIn (off := 180) (t := 219) hx d_La_law_39 (by rw [nI_toInt (by omega)]; omega) (by rw [nI_toInt (by omega)]; omega) (by rw [nI_toInt (by omega)]; rfl) rfl (l_start hx hl hX hG n k M V hI i (by omega) (by first | omega | (dsimp only; omega)) (by first | omega | (dsimp only; omega)) kk9)
      · exact g_tabIn (off := 216) (t := 255) hx d_La_law_39 (by rw [nI_toInt (by omega)]; omega) (by rw [nI_toInt (by omega)]; omega) (by rw [nI_toInt (by omega)]; rfl) rfl (l_edit hx hl hX hG n k M V hI i (by omega) (by first | omega | (dsimp only; omega)) (by first | omega | (dsimp only; omega)) kk9)
      · exact g_tabIn (off := 264) (t := 303) hx d_La_law_39 (by rw [nI_toInt (by omega)]; omega) (by rw [nI_toInt (by omega)]; omega) (by rw [nI_toInt (by omega)]; rfl) rfl (l_finish hx hl hX hG n k M V hI i (by omega) (by first | omega | (dsimp only; omega)) (by first | omega | (dsimp only; omega)) kk9)
      · exact g_tabIn (off := 308) (t := 347) hx d_La_law_39 (by rw [nI_toInt (by omega)]; omega) (by rw [nI_toInt (by omega)]; omega) (by rw [nI_toInt (by omega)]; rfl) rfl (l_reads hx hl hX hG n k M V hI i (by omega) (by first | omega | (dsimp only; omega)) (by first | omega | (dsimp only; omega)) kk9)
      · exact g_tabIn (off := 321) (t := 360) hx d_La_law_39 (by rw [nI_toInt (by omega)]; omega) (by rw [nI_toInt (by omega)]; omega) (by rw [nI_toInt (by omega)]; rfl) rfl (l_about hx hl hX hG n k M V hI i (by omega) (by first | omega | (dsimp only; omega)) (by first | omega | (dsimp only; omega)) kk9)
      · exact g_tabIn (off := 417) (t := 456) hx d_La_law_39 (by rw [nI_toInt (by omega)]; omega) (by rw [nI_toInt (by omega)]; omega) (by rw [nI_toInt (by omega)]; rfl) rfl (l_base hx hl hX hG n k M V hI i (by omega) (by first | omega | (dsimp only; omega)) (by first | omega | (dsimp only; omega)) kk9)
      · exact g_tabIn (off := 513) (t := 552) hx d_La_law_39 (by rw [nI_toInt (by omega)]; omega) (by rw [nI_toInt (by omega)]; omega) (by rw [nI_toInt (by omega)]; rfl) rfl (l_pack hx hl hX hG n k M V hI i (by omega) (by first | omega | (dsimp only; omega)) (by first | omega | (dsimp only; omega)) kk9)
      · exact g_tabIn (off := 526) (t := 565) hx d_La_law_39 (by rw [nI_toInt (by omega)]; omega) (by rw [nI_toInt (by omega)]; omega) (by rw [nI_toInt (by omega)]; rfl) rfl (l_blocks hx hl hX hG n k M V hI i (by omega) (by first | omega | (dsimp only; omega)) (by first | omega | (dsimp only; omega)) kk9)
      · exact g_tabIn (off := 539) (t := 578) hx d_La_law_39 (by rw [nI_toInt (by omega)]; omega) (by rw [nI_toInt (by omega)]; omega) (by rw [nI_toInt (by omega)]; rfl) rfl (l_size hx hl hX hG n k M V hI i (by omega) (by first | omega | (dsimp only; omega)) (by first | omega | (dsimp only; omega)) kk9)
      · exact g_tabIn (off := 552) (t := 591) hx d_La_law_39 (by rw [nI_toInt (by omega)]; omega) (by rw [nI_toInt (by omega)]; omega) (by rw [nI_toInt (by omega)]; rfl) rfl (l_at hx hl hX hG n k M V hI i (by omega) (by first | omega | (dsimp only; omega)) (by first | omega | (dsimp only; omega)) kk9)
      · exact g_tabIn (off := 608) (t := 647) hx d_La_law_39 (by rw [nI_toInt (by omega)]; omega) (by rw [nI_toInt (by omega)]; omega) (by rw [nI_toInt (by omega)]; rfl) rfl (l_corrupt hx hl hX hG n k M V hI i (by omega) (by first | omega | (dsimp only; omega)) (by first | omega | (dsimp only; omega)) kk9)
      · exact g_tabIn (off := 656) (t := 695) hx d_La_law_39 (by rw [nI_toInt (by omega)]; omega) (by rw [nI_toInt (by omega)]; omega) (by rw [nI_toInt (by omega)]; rfl) rfl (l_unpack hx hl hX hG n k M V hI i (by omega) (by first | omega | (dsimp only; omega)) (by first | omega | (dsimp only; omega)) kk9)
      · exact g_tabIn (off := 712) (t := 751) hx d_La_law_39 (by rw [nI_toInt (by omega)]; omega) (by rw [nI_toInt (by omega)]; omega) (by rw [nI_toInt (by omega)]; rfl) rfl (l_depth hx hl hX hG n k M V hI i (by omega) (by first | omega | (dsimp only; omega)) (by first | omega | (dsimp only; omega)) kk9)
theorem pX.up {Γ Γ' : zG} {Q Q' : Nat → Nat → Nat} {x sh sp : Nat} (h : pX Γ Q x sh sp) (h9 : ∀ b, x ≤ b → b ≤ x + 141 → Γ' b = Γ b ∧ Q' b = Q b) : pX Γ' Q' x sh sp := by
  obtain ⟨h1, h2, h3, h4, h5, h6, ⟨h7, h8⟩, hA, hE, hD⟩ := h
  exact ⟨⟨((h9 x (by omega) (by omega)).1).trans h1.1, h1.2⟩, by rw [(h9 x (by omega) (by omega)).2]; exact h2, h3, h4.up (fun b q1 q2 => (h9 b (by omega) (by omega)).1) (h9 _ (by omega) (by omega)).2, h5.up (fun b q1 q2 => h9 b (by omega) (by omega)), ((h9 _ (by omega) (by omega)).1).trans h6, ⟨h7.up (fun b q1 q2 => h9 b (by omega) (by omega)), h8.up (fun b q1 q2 => h9 b (by omega) (by omega))⟩, hA.up (fun b q1 q2 => (h9 b (by omega) (by omega)).1) (h9 _ (by omega) (by omega)).2, hE.up (fun b q1 q2 => (h9 b (by omega) (by omega)).1) (h9 _ (by omega) (by omega)).2, hD.up (fun b q1 q2 => (h9 b (by omega) (by omega)).1) (h9 _ (by omega) (by omega)).2⟩
theorem PI.up {Γ Γ' : zG} {M M' : zM} {x : Nat} {V : sV} (h : PI Γ M x V) (h9 : ∀ b, x ≤ b → b ≤ x + 141 → Γ' b = Γ b ∧ M'.1 b = M.1 b ∧ M'.2.2 b = M.2.2 b) : PI Γ' M' x V :=
  ⟨pX.up h.1 (fun b q1 q2 => ⟨(h9 b q1 q2).1, (h9 b q1 q2).2.2⟩), (pI.cg (M := M) (M' := M') h (fun b q1 q2 => (h9 b q1 q2).2)).2⟩
theorem qX.up {Γ Γ' : zG} {Q Q' : Nat → Nat → Nat} {m : Nat} (h : qX Γ Q m) (h9 : ∀ b, m ≤ b → b ≤ m + 12 → Γ' b = Γ b) (hp : Q' m = Q m) : qX Γ' Q' m := by
  unfold qX at h ⊢
  rw [hp, h9 _ (by omega) (by omega), h9 _ (by omega) (by omega), h9 _ (by omega) (by omega), h9 _ (by omega) (by omega), h9 _ (by omega) (by omega), h9 _ (by omega) (by omega), h9 _ (by omega) (by omega), h9 _ (by omega) (by omega), h9 _ (by omega) (by omega), h9 _ (by omega) (by omega), h9 _ (by omega) (by omega), h9 _ (by omega) (by omega), h9 _ (by omega) (by omega)]
  exact h
def V00 (x : Nat) : sV := ((x + 106, x + 120), (0, 0, 0, 0, 0), (fun _ => 0, fun _ => 0), fun _ => (0, []), fun _ => (0, []), (0, []))
set_option maxHeartbeats 4000000 in
set_option maxRecDepth 100000 in
theorem l_begin {f : zF} {E : zE} (hx : zOk f E Y_La_law 9 (601024, 7293034)) (hl : (zll f.1).stackTraces = false) {b L : Nat} {xs : Nat → Int32} (hX : zX0 f E b L xs)
    (hE : ∀ (Γ : zG) (n : Nat) (k : Nat × Nat) (M : zM) (lc : List (Nat × Value)), k.1 ≤ 601024 → k.2 ≤ 7293034 → zGo f E Γ n k M 814 lc [.int (nI 1)]) (x : Nat) (hx0 : 0 < x) (M : zM) : zGo f E (fun _ => none) x (0, 0) M 0 [(0, .ref b)] [] := by
  refine g_new (q := 3) (c := 6) hx d_La_law_0 rfl rfl nl_La_8 ins_6 ini_6 (by decide) (by decide) (fun hlo => ?_)
  refine g_dup (q := 4) hx d_La_law_3 rfl rfl ?_
  refine g_cc (q := 7) (zrunI hx d_La_law_4 lk_La_53 rfl rfl (Nat.le_of_ble_eq_true rfl) (by decide) (by decide) (by decide) (c_Sr_init _ E _ _ x (if_pos rfl) hx0 (fun _ => (0, [])) (fun _ => (0, [])) (0, []))) rfl (fun Γ2 n2 M2 p2 => ?_)
  obtain ⟨rfl, hC2, hP2⟩ := p2
  have hP2 : PI Γ2 M2 x (V00 x) := hP2
  refine g_astore_n (q := 8) (lc' := [(1, _), (0, _)]) hx d_La_law_7 rfl (by decide) rfl ?_
  refine g_new (q := 11) (c := 7) hx d_La_law_8 rfl rfl nl_La_54 ins_7 ini_7 (by decide) (by decide) (fun hlo2 => ?_)
  refine g_dup (q := 12) hx d_La_law_11 rfl rfl ?_
  refine g_cc (q := 15) (zrunI hx d_La_law_12 lk_La_56 rfl rfl (Nat.le_of_ble_eq_true rfl) (by decide) (by decide) (by decide) (c_Mo_init _ E _ _ (x + 142) (if_pos rfl) (by omega) (fun j => by rw [nI_0]; show va_up M2.1 (x + 142) (fun _ => 0) (x + 142) j = 0; simp [va_up]) (fun _ => (0, [])) (fun _ => (0, [])) (0, []))) rfl (fun Γ3 n3 M3 p3 => ?_)
  obtain ⟨rfl, hC3, hX3, hQ3⟩ := p3
  have hQ3 : QI M3 (x + 142) (V00 x) := hQ3
  refine g_astore_n (q := 16) (lc' := [(2, _), (1, _), (0, _)]) hx d_La_law_15 rfl (by decide) rfl ?_
  refine g_iconst (q := 17) (v := nI 1) hx d_La_law_16 rfl (by decide) ?_
  refine g_newl (q := 19) hx d_La_law_17 rfl rfl (by decide) ac_long (by decide) (by decide) (fun hlo3 => ?_)
  refine g_astore_n (q := 20) (lc' := [(3, _), (2, _), (1, _), (0, _)]) hx d_La_law_19 rfl (by decide) rfl ?_
  refine g_iconst (q := 21) (v := nI 0) hx d_La_law_20 rfl (by decide) ?_
  refine g_istore (q := 23) (lc' := [(4, _), (3, _), (2, _), (1, _), (0, _)]) hx d_La_law_21 rfl (by decide) rfl ?_
  have c3 : ∀ b, b < x + 142 → Γ3 b = Γ2 b ∧ M3.1 b = M2.1 b ∧ M3.2.2 b = M2.2.2 b := fun b hb => ⟨(hC3 b hb).1.trans (va_up_ne _ _ (by omega)), (hC3 b hb).2.1.trans (va_up_ne _ _ (by omega)), (hC3 b hb).2.2.2.trans (va_up_ne _ _ (by omega))⟩
  have hP4 : PI (va_up Γ3 (x + 142 + 13) (some (2, 1))) (zpush M3 (x + 142 + 13)) x (V00 x) := hP2.up (fun b q1 q2 => ⟨(va_up_ne _ _ (by omega)).trans (c3 b (by omega)).1, (va_up_ne _ _ (by omega)).trans (c3 b (by omega)).2.1, (va_up_ne _ _ (by omega)).trans (c3 b (by omega)).2.2⟩)
  have hX4 : qX (va_up Γ3 (x + 142 + 13) (some (2, 1))) (zpush M3 (x + 142 + 13)).2.2 (x + 142) := hX3.up (fun b q1 q2 => va_up_ne _ _ (by omega)) (va_up_ne _ _ (by omega))
  have hQ4 : QI (zpush M3 (x + 142 + 13)) (x + 142) (V00 x) := qI.cg (M := M3) (fun a q1 q2 => va_up_ne _ _ (by omega)) hQ3
  exact l_loop hx hl hX ⟨hP4.1.1.1, if_pos rfl, rfl, rfl⟩ (fun n k M lc => hE _ n k M lc) 0 _ _ _ (V00 x) (by decide) (by decide) (by decide) ⟨hP4, hX4, hQ4⟩
