/-! the law's own helpers: they call, and tell by a number what was thrown -/
theorem cl_La_13 : Cond.classLink "SlicedReadsLaw" 13 "java/lang/IllegalArgumentException" ∈ zWs := zmem 359 (by decide +kernel) rfl
theorem ca_IA : Cond.castable "java/lang/IllegalArgumentException" "java/lang/IllegalArgumentException" ∈ zNs := zmen 368 (by decide +kernel) rfl
theorem cl_La_15 : Cond.classLink "SlicedReadsLaw" 15 "java/lang/IllegalStateException" ∈ zWs := zmem 360 (by decide +kernel) rfl
theorem ca_IS : Cond.castable "java/lang/IllegalStateException" "java/lang/IllegalStateException" ∈ zNs := zmen 437 (by decide +kernel) rfl
theorem cl_La_17 : Cond.classLink "SlicedReadsLaw" 17 "java/lang/UnsupportedOperationException" ∈ zWs := zmem 361 (by decide +kernel) rfl
theorem ca_UO : Cond.castable "java/lang/UnsupportedOperationException" "java/lang/UnsupportedOperationException" ∈ zNs := zmen 453 (by decide +kernel) rfl
theorem cl_La_23 : Cond.classLink "SlicedReadsLaw" 23 "java/lang/IndexOutOfBoundsException" ∈ zWs := zmem 474 (by decide +kernel) rfl
theorem ca_IO : Cond.castable "java/lang/IndexOutOfBoundsException" "java/lang/IndexOutOfBoundsException" ∈ zNs := zmen 481 (by decide +kernel) rfl
theorem g_cik {f : zF} {E : zE} {Γ : zG} {n n1 : Nat} {k k' : Nat × Nat} {M : zM} {pc q : Nat} {lc : List (Nat × Value)} {st rest : List Value} {post : Int32 → zM → Prop} (hr : zRun f E Γ n k M pc lc st rest k' (zPi Γ n1 post)) (hq : pc + 3 = q) (kk9 : ∀ (r : Int32) (M' : zM), post r M' → zGo f E Γ n1 (k.1 + k'.1, k.2 + k'.2) M' q lc (.int r :: rest)) : zGo f E Γ n k M pc lc st :=
  g_run hr hq (by rintro v Γ' n' M' ⟨r, rfl, rfl, rfl, h⟩; exact kk9 r M' h)
abbrev hh_refer : List (Nat × Nat × Nat × Nat) := [(0, 10, 13, 13), (0, 10, 17, 15), (0, 10, 21, 17)]
theorem lw_La_57 : zLw "SlicedReadsLaw" 57 Y_La_refer hh_refer 4 := ⟨zmem 356 (by decide +kernel) rfl, zmem 357 (by decide +kernel) rfl, zmem 30 (by decide +kernel) rfl, zmem 358 (by decide +kernel) rfl, by decide, by decide, by decide +kernel, by decide⟩
theorem ml_La_7 : Cond.methodLink "SlicedReadsLaw" 7 Y_Sr_refer.1 ∈ zWs := zmem 362 (by decide +kernel) rfl
set_option maxHeartbeats 4000000 in
set_option maxRecDepth 100000 in
theorem w_La_refer0 (l : Launch) (E : zE) (Γ : zG) (n : Nat) (M : zM) (x o : Nat) (a1 a2 : Int32) (S : zM → Prop) (hg : Γ x = some (0, 6)) (r : Int32) (ho : Γ o = some (2, 1)) (hC : zCt l E Y_Sr_refer 7 (0, 0) [.ref x, .int a1, .int a2] Γ n M (zPi Γ n (fun v M' => v = r ∧ S M'))) : zCw l E Y_La_refer hh_refer 8 (0, 0) [.ref x, .int a1, .int a2, .ref o] Γ n M (zPi Γ n (fun v M' => v = nI 0 ∧ ∃ M1, S M1 ∧ M' = zsl M1 o 0 r.toInt64)) := by
  refine zCw.of [(0, .ref x), (1, .int a1), (2, .int a2), (3, .ref o)] (by decide) (Nat.le_of_ble_eq_true rfl) rfl (fun f hfl hx htab hQ => ?_)
  subst hfl
  refine g_aload_n (q := 1) hx d_La_refer_0 rfl rfl ?_
  refine g_iconst (q := 2) (v := nI 0) hx d_La_refer_1 rfl (by decide) ?_
  refine g_aload_n (q := 3) hx d_La_refer_2 rfl rfl ?_
  refine g_iload_n (q := 4) hx d_La_refer_3 rfl rfl ?_
  refine g_iload_n (q := 5) hx d_La_refer_4 rfl rfl ?_
  refine g_ci (q := 8) (zrunV hx d_La_refer_5 lk_La_7 rfl rfl hg rfl rfl (Nat.le_of_ble_eq_true rfl) (by decide) (by decide) (by decide) (hC)) rfl (fun r5 M5 p5 => ?_)
  obtain ⟨rfl, hS⟩ := p5
  refine g_i2l (q := 9) hx d_La_refer_8 rfl rfl ?_
  refine g_last (q := 10) hx d_La_refer_9 rfl ho rfl (by decide) (by decide) ?_
  refine g_goto (q := 25) hx d_La_refer_10 rfl ?_
  refine g_iconst (q := 26) (v := nI 0) hx d_La_refer_25 rfl (by decide) ?_
  exact g_iret hx d_La_refer_26 rfl hQ ⟨Nat.le_refl _, Nat.le_refl _⟩ ⟨_, rfl, rfl, rfl, rfl, _, hS, rfl⟩
set_option maxHeartbeats 4000000 in
set_option maxRecDepth 100000 in
theorem w_La_refer1 (l : Launch) (E : zE) (Γ : zG) (n : Nat) (M : zM) (x o : Nat) (a1 a2 : Int32) (S : zM → Prop) (hg : Γ x = some (0, 6)) (hC : zCx l E Y_Sr_refer 7 (1, 6) [.ref x, .int a1, .int a2] Γ n M "java/lang/IllegalArgumentException" (n + 1) S) : zCw l E Y_La_refer hh_refer 8 (1, 6) [.ref x, .int a1, .int a2, .ref o] Γ n M (zPi Γ (n + 1) (fun v M' => v = nI 1 ∧ S M')) := by
  refine zCw.of [(0, .ref x), (1, .int a1), (2, .int a2), (3, .ref o)] (by decide) (Nat.le_of_ble_eq_true rfl) rfl (fun f hfl hx htab hQ => ?_)
  subst hfl
  refine g_aload_n (q := 1) hx d_La_refer_0 rfl rfl ?_
  refine g_iconst (q := 2) (v := nI 0) hx d_La_refer_1 rfl (by decide) ?_
  refine g_aload_n (q := 3) hx d_La_refer_2 rfl rfl ?_
  refine g_iload_n (q := 4) hx d_La_refer_3 rfl rfl ?_
  refine g_iload_n (q := 5) hx d_La_refer_4 rfl rfl ?_
  refine g_cat hx d_La_refer_5 lk_La_7 ml_La_7 rfl rfl hg rfl rfl (Nat.le_of_ble_eq_true rfl) (by decide) (by decide) (by decide) hC [] ⟨0, 10, 13, 13⟩ [⟨0, 10, 17, 15⟩, ⟨0, 10, 21, 17⟩] htab (fun z hz => nomatch hz) rfl (by decide) cl_La_13 ca_IA (fun q M1 hS => ?_)
  show zGo f E Γ (n + 1) (1, 6) M1 13 _ _
  refine g_astore (q := 15) (lc' := [(4, _), (0, _), (1, _), (2, _), (3, _)]) hx d_La_refer_13 rfl (by decide) rfl ?_
  refine g_iconst (q := 16) (v := nI 1) hx d_La_refer_15 rfl (by decide) ?_
  exact g_iret hx d_La_refer_16 rfl hQ ⟨Nat.le_refl _, Nat.le_refl _⟩ ⟨_, rfl, rfl, rfl, rfl, hS⟩
set_option maxHeartbeats 4000000 in
set_option maxRecDepth 100000 in
theorem w_La_refer2 (l : Launch) (E : zE) (Γ : zG) (n : Nat) (M : zM) (x o : Nat) (a1 a2 : Int32) (S : zM → Prop) (hg : Γ x = some (0, 6)) (hC : zCx l E Y_Sr_refer 7 (1, 6) [.ref x, .int a1, .int a2] Γ n M "java/lang/IllegalStateException" (n + 1) S) : zCw l E Y_La_refer hh_refer 8 (1, 6) [.ref x, .int a1, .int a2, .ref o] Γ n M (zPi Γ (n + 1) (fun v M' => v = nI 2 ∧ S M')) := by
  refine zCw.of [(0, .ref x), (1, .int a1), (2, .int a2), (3, .ref o)] (by decide) (Nat.le_of_ble_eq_true rfl) rfl (fun f hfl hx htab hQ => ?_)
  subst hfl
  refine g_aload_n (q := 1) hx d_La_refer_0 rfl rfl ?_
  refine g_iconst (q := 2) (v := nI 0) hx d_La_refer_1 rfl (by decide) ?_
  refine g_aload_n (q := 3) hx d_La_refer_2 rfl rfl ?_
  refine g_iload_n (q := 4) hx d_La_refer_3 rfl rfl ?_
  refine g_iload_n (q := 5) hx d_La_refer_4 rfl rfl ?_
  refine g_cat hx d_La_refer_5 lk_La_7 ml_La_7 rfl rfl hg rfl rfl (Nat.le_of_ble_eq_true rfl) (by decide) (by decide) (by decide) hC [⟨0, 10, 13, 13⟩] ⟨0, 10, 17, 15⟩ [⟨0, 10, 21, 17⟩] htab (fun z hz => by
      simp only [List.mem_cons, List.not_mem_nil, or_false] at hz
      rcases hz with rfl
      · exact ⟨by decide, _, cl_La_13, by decide +kernel⟩) rfl (by decide) cl_La_15 ca_IS (fun q M1 hS => ?_)
  show zGo f E Γ (n + 1) (1, 6) M1 17 _ _
  refine g_astore (q := 19) (lc' := [(4, _), (0, _), (1, _), (2, _), (3, _)]) hx d_La_refer_17 rfl (by decide) rfl ?_
  refine g_iconst (q := 20) (v := nI 2) hx d_La_refer_19 rfl (by decide) ?_
  exact g_iret hx d_La_refer_20 rfl hQ ⟨Nat.le_refl _, Nat.le_refl _⟩ ⟨_, rfl, rfl, rfl, rfl, hS⟩
set_option maxHeartbeats 4000000 in
set_option maxRecDepth 100000 in
theorem w_La_refer3 (l : Launch) (E : zE) (Γ : zG) (n : Nat) (M : zM) (x o : Nat) (a1 a2 : Int32) (S : zM → Prop) (hg : Γ x = some (0, 6)) (hC : zCx l E Y_Sr_refer 7 (1, 6) [.ref x, .int a1, .int a2] Γ n M "java/lang/UnsupportedOperationException" (n + 1) S) : zCw l E Y_La_refer hh_refer 8 (1, 6) [.ref x, .int a1, .int a2, .ref o] Γ n M (zPi Γ (n + 1) (fun v M' => v = nI 3 ∧ S M')) := by
  refine zCw.of [(0, .ref x), (1, .int a1), (2, .int a2), (3, .ref o)] (by decide) (Nat.le_of_ble_eq_true rfl) rfl (fun f hfl hx htab hQ => ?_)
  subst hfl
  refine g_aload_n (q := 1) hx d_La_refer_0 rfl rfl ?_
  refine g_iconst (q := 2) (v := nI 0) hx d_La_refer_1 rfl (by decide) ?_
  refine g_aload_n (q := 3) hx d_La_refer_2 rfl rfl ?_
  refine g_iload_n (q := 4) hx d_La_refer_3 rfl rfl ?_
  refine g_iload_n (q := 5) hx d_La_refer_4 rfl rfl ?_
  refine g_cat hx d_La_refer_5 lk_La_7 ml_La_7 rfl rfl hg rfl rfl (Nat.le_of_ble_eq_true rfl) (by decide) (by decide) (by decide) hC [⟨0, 10, 13, 13⟩, ⟨0, 10, 17, 15⟩] ⟨0, 10, 21, 17⟩ [] htab (fun z hz => by
      simp only [List.mem_cons, List.not_mem_nil, or_false] at hz
      rcases hz with rfl | rfl
      · exact ⟨by decide, _, cl_La_13, by decide +kernel⟩
      · exact ⟨by decide, _, cl_La_15, by decide +kernel⟩) rfl (by decide) cl_La_17 ca_UO (fun q M1 hS => ?_)
  show zGo f E Γ (n + 1) (1, 6) M1 21 _ _
  refine g_astore (q := 23) (lc' := [(4, _), (0, _), (1, _), (2, _), (3, _)]) hx d_La_refer_21 rfl (by decide) rfl ?_
  refine g_iconst (q := 24) (v := nI 3) hx d_La_refer_23 rfl (by decide) ?_
  exact g_iret hx d_La_refer_24 rfl hQ ⟨Nat.le_refl _, Nat.le_refl _⟩ ⟨_, rfl, rfl, rfl, rfl, hS⟩
abbrev hh_start : List (Nat × Nat × Nat × Nat) := [(0, 5, 8, 23)]
theorem lw_La_71 : zLw "SlicedReadsLaw" 71 Y_La_start hh_start 2 := ⟨zmem 471 (by decide +kernel) rfl, zmem 472 (by decide +kernel) rfl, zmem 30 (by decide +kernel) rfl, zmem 473 (by decide +kernel) rfl, by decide, by decide, by decide +kernel, by decide⟩
theorem ml_La_19 : Cond.methodLink "SlicedReadsLaw" 19 Y_Sr_start.1 ∈ zWs := zmem 475 (by decide +kernel) rfl
set_option maxHeartbeats 4000000 in
set_option maxRecDepth 100000 in
theorem w_La_start0 (l : Launch) (E : zE) (Γ : zG) (n : Nat) (M : zM) (x : Nat) (a1 : Int32) (S : zM → Prop) (hg : Γ x = some (0, 6)) (hC : zCt l E Y_Sr_start 7 (0, 0) [.ref x, .int a1] Γ n M (zPv Γ n S)) : zCw l E Y_La_start hh_start 8 (0, 0) [.ref x, .int a1] Γ n M (zPi Γ n (fun v M' => v = nI 0 ∧ S M')) := by
  refine zCw.of [(0, .ref x), (1, .int a1)] (by decide) (Nat.le_of_ble_eq_true rfl) rfl (fun f hfl hx htab hQ => ?_)
  subst hfl
  refine g_aload_n (q := 1) hx d_La_start_0 rfl rfl ?_
  refine g_iload_n (q := 2) hx d_La_start_1 rfl rfl ?_
  refine g_cv (q := 5) (zrunV hx d_La_start_2 lk_La_19 rfl rfl hg rfl rfl (Nat.le_of_ble_eq_true rfl) (by decide) (by decide) (by decide) (hC)) rfl (fun M2 p2 => ?_)
  refine g_goto (q := 11) hx d_La_start_5 rfl ?_
  refine g_iconst (q := 12) (v := nI 0) hx d_La_start_11 rfl (by decide) ?_
  exact g_iret hx d_La_start_12 rfl hQ ⟨Nat.le_refl _, Nat.le_refl _⟩ ⟨_, rfl, rfl, rfl, rfl, p2⟩
set_option maxHeartbeats 4000000 in
set_option maxRecDepth 100000 in
theorem w_La_start1 (l : Launch) (E : zE) (Γ : zG) (n : Nat) (M : zM) (x : Nat) (a1 : Int32) (S : zM → Prop) (hg : Γ x = some (0, 6)) (hC : zCx l E Y_Sr_start 7 (1, 6) [.ref x, .int a1] Γ n M "java/lang/IndexOutOfBoundsException" (n + 1) S) : zCw l E Y_La_start hh_start 8 (1, 6) [.ref x, .int a1] Γ n M (zPi Γ (n + 1) (fun v M' => v = nI 1 ∧ S M')) := by
  refine zCw.of [(0, .ref x), (1, .int a1)] (by decide) (Nat.le_of_ble_eq_true rfl) rfl (fun f hfl hx htab hQ => ?_)
  subst hfl
  refine g_aload_n (q := 1) hx d_La_start_0 rfl rfl ?_
  refine g_iload_n (q := 2) hx d_La_start_1 rfl rfl ?_
  refine g_cat hx d_La_start_2 lk_La_19 ml_La_19 rfl rfl hg rfl rfl (Nat.le_of_ble_eq_true rfl) (by decide) (by decide) (by decide) hC [] ⟨0, 5, 8, 23⟩ [] htab (fun z hz => nomatch hz) rfl (by decide) cl_La_23 ca_IO (fun q M1 hS => ?_)
  show zGo f E Γ (n + 1) (1, 6) M1 8 _ _
  refine g_astore_n (q := 9) (lc' := [(2, _), (0, _), (1, _)]) hx d_La_start_8 rfl (by decide) rfl ?_
  refine g_iconst (q := 10) (v := nI 1) hx d_La_start_9 rfl (by decide) ?_
  exact g_iret hx d_La_start_10 rfl hQ ⟨Nat.le_refl _, Nat.le_refl _⟩ ⟨_, rfl, rfl, rfl, rfl, hS⟩
abbrev hh_edit : List (Nat × Nat × Nat × Nat) := [(0, 6, 9, 15), (0, 6, 12, 13), (0, 6, 15, 17)]
theorem lw_La_75 : zLw "SlicedReadsLaw" 75 Y_La_edit hh_edit 3 := ⟨zmem 499 (by decide +kernel) rfl, zmem 500 (by decide +kernel) rfl, zmem 30 (by decide +kernel) rfl, zmem 501 (by decide +kernel) rfl, by decide, by decide, by decide +kernel, by decide⟩
theorem ml_La_25 : Cond.methodLink "SlicedReadsLaw" 25 Y_Sr_edit.1 ∈ zWs := zmem 502 (by decide +kernel) rfl
set_option maxHeartbeats 4000000 in
set_option maxRecDepth 100000 in
theorem w_La_edit0 (l : Launch) (E : zE) (Γ : zG) (n : Nat) (M : zM) (x : Nat) (a1 a2 : Int32) (S : zM → Prop) (hg : Γ x = some (0, 6)) (hC : zCt l E Y_Sr_edit 7 (0, 0) [.ref x, .int a1, .int a2] Γ n M (zPv Γ n S)) : zCw l E Y_La_edit hh_edit 8 (0, 0) [.ref x, .int a1, .int a2] Γ n M (zPi Γ n (fun v M' => v = nI 0 ∧ S M')) := by
  refine zCw.of [(0, .ref x), (1, .int a1), (2, .int a2)] (by decide) (Nat.le_of_ble_eq_true rfl) rfl (fun f hfl hx htab hQ => ?_)
  subst hfl
  refine g_aload_n (q := 1) hx d_La_edit_0 rfl rfl ?_
  refine g_iload_n (q := 2) hx d_La_edit_1 rfl rfl ?_
  refine g_iload_n (q := 3) hx d_La_edit_2 rfl rfl ?_
  refine g_cv (q := 6) (zrunV hx d_La_edit_3 lk_La_25 rfl rfl hg rfl rfl (Nat.le_of_ble_eq_true rfl) (by decide) (by decide) (by decide) (hC)) rfl (fun M3 p3 => ?_)
  refine g_goto (q := 18) hx d_La_edit_6 rfl ?_
  refine g_iconst (q := 19) (v := nI 0) hx d_La_edit_18 rfl (by decide) ?_
  exact g_iret hx d_La_edit_19 rfl hQ ⟨Nat.le_refl _, Nat.le_refl _⟩ ⟨_, rfl, rfl, rfl, rfl, p3⟩
set_option maxHeartbeats 4000000 in
set_option maxRecDepth 100000 in
theorem w_La_edit1 (l : Launch) (E : zE) (Γ : zG) (n : Nat) (M : zM) (x : Nat) (a1 a2 : Int32) (S : zM → Prop) (hg : Γ x = some (0, 6)) (hC : zCx l E Y_Sr_edit 7 (1, 6) [.ref x, .int a1, .int a2] Γ n M "java/lang/IllegalStateException" (n + 1) S) : zCw l E Y_La_edit hh_edit 8 (1, 6) [.ref x, .int a1, .int a2] Γ n M (zPi Γ (n + 1) (fun v M' => v = nI 1 ∧ S M')) := by
  refine zCw.of [(0, .ref x), (1, .int a1), (2, .int a2)] (by decide) (Nat.le_of_ble_eq_true rfl) rfl (fun f hfl hx htab hQ => ?_)
  subst hfl
  refine g_aload_n (q := 1) hx d_La_edit_0 rfl rfl ?_
  refine g_iload_n (q := 2) hx d_La_edit_1 rfl rfl ?_
  refine g_iload_n (q := 3) hx d_La_edit_2 rfl rfl ?_
  refine g_cat hx d_La_edit_3 lk_La_25 ml_La_25 rfl rfl hg rfl rfl (Nat.le_of_ble_eq_true rfl) (by decide) (by decide) (by decide) hC [] ⟨0, 6, 9, 15⟩ [⟨0, 6, 12, 13⟩, ⟨0, 6, 15, 17⟩] htab (fun z hz => nomatch hz) rfl (by decide) cl_La_15 ca_IS (fun q M1 hS => ?_)
  show zGo f E Γ (n + 1) (1, 6) M1 9 _ _
  refine g_astore_n (q := 10) (lc' := [(3, _), (0, _), (1, _), (2, _)]) hx d_La_edit_9 rfl (by decide) rfl ?_
  refine g_iconst (q := 11) (v := nI 1) hx d_La_edit_10 rfl (by decide) ?_
  exact g_iret hx d_La_edit_11 rfl hQ ⟨Nat.le_refl _, Nat.le_refl _⟩ ⟨_, rfl, rfl, rfl, rfl, hS⟩
set_option maxHeartbeats 4000000 in
set_option maxRecDepth 100000 in
theorem w_La_edit2 (l : Launch) (E : zE) (Γ : zG) (n : Nat) (M : zM) (x : Nat) (a1 a2 : Int32) (S : zM → Prop) (hg : Γ x = some (0, 6)) (hC : zCx l E Y_Sr_edit 7 (1, 6) [.ref x, .int a1, .int a2] Γ n M "java/lang/IllegalArgumentException" (n + 1) S) : zCw l E Y_La_edit hh_edit 8 (1, 6) [.ref x, .int a1, .int a2] Γ n M (zPi Γ (n + 1) (fun v M' => v = nI 2 ∧ S M')) := by
  refine zCw.of [(0, .ref x), (1, .int a1), (2, .int a2)] (by decide) (Nat.le_of_ble_eq_true rfl) rfl (fun f hfl hx htab hQ => ?_)
  subst hfl
  refine g_aload_n (q := 1) hx d_La_edit_0 rfl rfl ?_
  refine g_iload_n (q := 2) hx d_La_edit_1 rfl rfl ?_
  refine g_iload_n (q := 3) hx d_La_edit_2 rfl rfl ?_
  refine g_cat hx d_La_edit_3 lk_La_25 ml_La_25 rfl rfl hg rfl rfl (Nat.le_of_ble_eq_true rfl) (by decide) (by decide) (by decide) hC [⟨0, 6, 9, 15⟩] ⟨0, 6, 12, 13⟩ [⟨0, 6, 15, 17⟩] htab (fun z hz => by
      simp only [List.mem_cons, List.not_mem_nil, or_false] at hz
      rcases hz with rfl
      · exact ⟨by decide, _, cl_La_15, by decide +kernel⟩) rfl (by decide) cl_La_13 ca_IA (fun q M1 hS => ?_)
  show zGo f E Γ (n + 1) (1, 6) M1 12 _ _
  refine g_astore_n (q := 13) (lc' := [(3, _), (0, _), (1, _), (2, _)]) hx d_La_edit_12 rfl (by decide) rfl ?_
  refine g_iconst (q := 14) (v := nI 2) hx d_La_edit_13 rfl (by decide) ?_
  exact g_iret hx d_La_edit_14 rfl hQ ⟨Nat.le_refl _, Nat.le_refl _⟩ ⟨_, rfl, rfl, rfl, rfl, hS⟩
set_option maxHeartbeats 4000000 in
set_option maxRecDepth 100000 in
theorem w_La_edit3 (l : Launch) (E : zE) (Γ : zG) (n : Nat) (M : zM) (x : Nat) (a1 a2 : Int32) (S : zM → Prop) (hg : Γ x = some (0, 6)) (hC : zCx l E Y_Sr_edit 7 (1, 6) [.ref x, .int a1, .int a2] Γ n M "java/lang/UnsupportedOperationException" (n + 1) S) : zCw l E Y_La_edit hh_edit 8 (1, 6) [.ref x, .int a1, .int a2] Γ n M (zPi Γ (n + 1) (fun v M' => v = nI 3 ∧ S M')) := by
  refine zCw.of [(0, .ref x), (1, .int a1), (2, .int a2)] (by decide) (Nat.le_of_ble_eq_true rfl) rfl (fun f hfl hx htab hQ => ?_)
  subst hfl
  refine g_aload_n (q := 1) hx d_La_edit_0 rfl rfl ?_
  refine g_iload_n (q := 2) hx d_La_edit_1 rfl rfl ?_
  refine g_iload_n (q := 3) hx d_La_edit_2 rfl rfl ?_
  refine g_cat hx d_La_edit_3 lk_La_25 ml_La_25 rfl rfl hg rfl rfl (Nat.le_of_ble_eq_true rfl) (by decide) (by decide) (by decide) hC [⟨0, 6, 9, 15⟩, ⟨0, 6, 12, 13⟩] ⟨0, 6, 15, 17⟩ [] htab (fun z hz => by
      simp only [List.mem_cons, List.not_mem_nil, or_false] at hz
      rcases hz with rfl | rfl
      · exact ⟨by decide, _, cl_La_15, by decide +kernel⟩
      · exact ⟨by decide, _, cl_La_13, by decide +kernel⟩) rfl (by decide) cl_La_17 ca_UO (fun q M1 hS => ?_)
  show zGo f E Γ (n + 1) (1, 6) M1 15 _ _
  refine g_astore_n (q := 16) (lc' := [(3, _), (0, _), (1, _), (2, _)]) hx d_La_edit_15 rfl (by decide) rfl ?_
  refine g_iconst (q := 17) (v := nI 3) hx d_La_edit_16 rfl (by decide) ?_
  exact g_iret hx d_La_edit_17 rfl hQ ⟨Nat.le_refl _, Nat.le_refl _⟩ ⟨_, rfl, rfl, rfl, rfl, hS⟩
abbrev hh_finish : List (Nat × Nat × Nat × Nat) := [(0, 8, 11, 15), (0, 8, 14, 17)]
theorem lw_La_79 : zLw "SlicedReadsLaw" 79 Y_La_finish hh_finish 2 := ⟨zmem 539 (by decide +kernel) rfl, zmem 540 (by decide +kernel) rfl, zmem 30 (by decide +kernel) rfl, zmem 541 (by decide +kernel) rfl, by decide, by decide, by decide +kernel, by decide⟩
theorem ml_La_29 : Cond.methodLink "SlicedReadsLaw" 29 Y_Sr_finish.1 ∈ zWs := zmem 542 (by decide +kernel) rfl
set_option maxHeartbeats 4000000 in
set_option maxRecDepth 100000 in
theorem w_La_finish0 (l : Launch) (E : zE) (Γ : zG) (n : Nat) (M : zM) (x o : Nat) (S : zM → Prop) (hg : Γ x = some (0, 6)) (r : Int32) (ho : Γ o = some (2, 1)) (hC : zCt l E Y_Sr_finish 7 (0, 0) [.ref x] Γ n M (zPi Γ n (fun v M' => v = r ∧ S M'))) : zCw l E Y_La_finish hh_finish 8 (0, 0) [.ref x, .ref o] Γ n M (zPi Γ n (fun v M' => v = nI 0 ∧ ∃ M1, S M1 ∧ M' = zsl M1 o 0 r.toInt64)) := by
  refine zCw.of [(0, .ref x), (1, .ref o)] (by decide) (Nat.le_of_ble_eq_true rfl) rfl (fun f hfl hx htab hQ => ?_)
  subst hfl
  refine g_aload_n (q := 1) hx d_La_finish_0 rfl rfl ?_
  refine g_iconst (q := 2) (v := nI 0) hx d_La_finish_1 rfl (by decide) ?_
  refine g_aload_n (q := 3) hx d_La_finish_2 rfl rfl ?_
  refine g_ci (q := 6) (zrunV hx d_La_finish_3 lk_La_29 rfl rfl hg rfl rfl (Nat.le_of_ble_eq_true rfl) (by decide) (by decide) (by decide) (hC)) rfl (fun r3 M3 p3 => ?_)
  obtain ⟨rfl, hS⟩ := p3
  refine g_i2l (q := 7) hx d_La_finish_6 rfl rfl ?_
  refine g_last (q := 8) hx d_La_finish_7 rfl ho rfl (by decide) (by decide) ?_
  refine g_goto (q := 17) hx d_La_finish_8 rfl ?_
  refine g_iconst (q := 18) (v := nI 0) hx d_La_finish_17 rfl (by decide) ?_
  exact g_iret hx d_La_finish_18 rfl hQ ⟨Nat.le_refl _, Nat.le_refl _⟩ ⟨_, rfl, rfl, rfl, rfl, _, hS, rfl⟩
set_option maxHeartbeats 4000000 in
set_option maxRecDepth 100000 in
theorem w_La_finish1 (l : Launch) (E : zE) (Γ : zG) (n : Nat) (M : zM) (x o : Nat) (S : zM → Prop) (hg : Γ x = some (0, 6)) (hC : zCx l E Y_Sr_finish 7 (1, 6) [.ref x] Γ n M "java/lang/IllegalStateException" (n + 1) S) : zCw l E Y_La_finish hh_finish 8 (1, 6) [.ref x, .ref o] Γ n M (zPi Γ (n + 1) (fun v M' => v = nI 1 ∧ S M')) := by
  refine zCw.of [(0, .ref x), (1, .ref o)] (by decide) (Nat.le_of_ble_eq_true rfl) rfl (fun f hfl hx htab hQ => ?_)
  subst hfl
  refine g_aload_n (q := 1) hx d_La_finish_0 rfl rfl ?_
  refine g_iconst (q := 2) (v := nI 0) hx d_La_finish_1 rfl (by decide) ?_
  refine g_aload_n (q := 3) hx d_La_finish_2 rfl rfl ?_
  refine g_cat hx d_La_finish_3 lk_La_29 ml_La_29 rfl rfl hg rfl rfl (Nat.le_of_ble_eq_true rfl) (by decide) (by decide) (by decide) hC [] ⟨0, 8, 11, 15⟩ [⟨0, 8, 14, 17⟩] htab (fun z hz => nomatch hz) rfl (by decide) cl_La_15 ca_IS (fun q M1 hS => ?_)
  show zGo f E Γ (n + 1) (1, 6) M1 11 _ _
  refine g_astore_n (q := 12) (lc' := [(2, _), (0, _), (1, _)]) hx d_La_finish_11 rfl (by decide) rfl ?_
  refine g_iconst (q := 13) (v := nI 1) hx d_La_finish_12 rfl (by decide) ?_
  exact g_iret hx d_La_finish_13 rfl hQ ⟨Nat.le_refl _, Nat.le_refl _⟩ ⟨_, rfl, rfl, rfl, rfl, hS⟩
set_option maxHeartbeats 4000000 in
set_option maxRecDepth 100000 in
theorem w_La_finish2 (l : Launch) (E : zE) (Γ : zG) (n : Nat) (M : zM) (x o : Nat) (S : zM → Prop) (hg : Γ x = some (0, 6)) (hC : zCx l E Y_Sr_finish 7 (1, 6) [.ref x] Γ n M "java/lang/UnsupportedOperationException" (n + 1) S) : zCw l E Y_La_finish hh_finish 8 (1, 6) [.ref x, .ref o] Γ n M (zPi Γ (n + 1) (fun v M' => v = nI 2 ∧ S M')) := by
  refine zCw.of [(0, .ref x), (1, .ref o)] (by decide) (Nat.le_of_ble_eq_true rfl) rfl (fun f hfl hx htab hQ => ?_)
  subst hfl
  refine g_aload_n (q := 1) hx d_La_finish_0 rfl rfl ?_
  refine g_iconst (q := 2) (v := nI 0) hx d_La_finish_1 rfl (by decide) ?_
  refine g_aload_n (q := 3) hx d_La_finish_2 rfl rfl ?_
  refine g_cat hx d_La_finish_3 lk_La_29 ml_La_29 rfl rfl hg rfl rfl (Nat.le_of_ble_eq_true rfl) (by decide) (by decide) (by decide) hC [⟨0, 8, 11, 15⟩] ⟨0, 8, 14, 17⟩ [] htab (fun z hz => by
      simp only [List.mem_cons, List.not_mem_nil, or_false] at hz
      rcases hz with rfl
      · exact ⟨by decide, _, cl_La_15, by decide +kernel⟩) rfl (by decide) cl_La_17 ca_UO (fun q M1 hS => ?_)
  show zGo f E Γ (n + 1) (1, 6) M1 14 _ _
  refine g_astore_n (q := 15) (lc' := [(2, _), (0, _), (1, _)]) hx d_La_finish_14 rfl (by decide) rfl ?_
  refine g_iconst (q := 16) (v := nI 2) hx d_La_finish_15 rfl (by decide) ?_
  exact g_iret hx d_La_finish_16 rfl hQ ⟨Nat.le_refl _, Nat.le_refl _⟩ ⟨_, rfl, rfl, rfl, rfl, hS⟩
abbrev hh_about : List (Nat × Nat × Nat × Nat) := [(0, 12, 15, 23), (0, 12, 19, 13)]
theorem lw_La_87 : zLw "SlicedReadsLaw" 87 Y_La_about hh_about 5 := ⟨zmem 548 (by decide +kernel) rfl, zmem 549 (by decide +kernel) rfl, zmem 30 (by decide +kernel) rfl, zmem 550 (by decide +kernel) rfl, by decide, by decide, by decide +kernel, by decide⟩
theorem ml_La_33 : Cond.methodLink "SlicedReadsLaw" 33 Y_Sr_about.1 ∈ zWs := zmem 551 (by decide +kernel) rfl
set_option maxHeartbeats 4000000 in
set_option maxRecDepth 100000 in
theorem w_La_about0 (l : Launch) (E : zE) (Γ : zG) (n : Nat) (M : zM) (x o : Nat) (a1 a2 a3 : Int32) (S : zM → Prop) (hg : Γ x = some (0, 6)) (r : Int32) (ho : Γ o = some (2, 1)) (hC : zCt l E Y_Sr_about 7 (0, 0) [.ref x, .int a1, .int a2, .int a3] Γ n M (zPi Γ n (fun v M' => v = r ∧ S M'))) : zCw l E Y_La_about hh_about 8 (0, 0) [.ref x, .int a1, .int a2, .int a3, .ref o] Γ n M (zPi Γ n (fun v M' => v = nI 0 ∧ ∃ M1, S M1 ∧ M' = zsl M1 o 0 r.toInt64)) := by
  refine zCw.of [(0, .ref x), (1, .int a1), (2, .int a2), (3, .int a3), (4, .ref o)] (by decide) (Nat.le_of_ble_eq_true rfl) rfl (fun f hfl hx htab hQ => ?_)
  subst hfl
  refine g_aload (q := 2) hx d_La_about_0 rfl rfl ?_
  refine g_iconst (q := 3) (v := nI 0) hx d_La_about_2 rfl (by decide) ?_
  refine g_aload_n (q := 4) hx d_La_about_3 rfl rfl ?_
  refine g_iload_n (q := 5) hx d_La_about_4 rfl rfl ?_
  refine g_iload_n (q := 6) hx d_La_about_5 rfl rfl ?_
  refine g_iload_n (q := 7) hx d_La_about_6 rfl rfl ?_
  refine g_ci (q := 10) (zrunV hx d_La_about_7 lk_La_33 rfl rfl hg rfl rfl (Nat.le_of_ble_eq_true rfl) (by decide) (by decide) (by decide) (hC)) rfl (fun r7 M7 p7 => ?_)
  obtain ⟨rfl, hS⟩ := p7
  refine g_i2l (q := 11) hx d_La_about_10 rfl rfl ?_
  refine g_last (q := 12) hx d_La_about_11 rfl ho rfl (by decide) (by decide) ?_
  refine g_goto (q := 23) hx d_La_about_12 rfl ?_
  refine g_iconst (q := 24) (v := nI 0) hx d_La_about_23 rfl (by decide) ?_
  exact g_iret hx d_La_about_24 rfl hQ ⟨Nat.le_refl _, Nat.le_refl _⟩ ⟨_, rfl, rfl, rfl, rfl, _, hS, rfl⟩
set_option maxHeartbeats 4000000 in
set_option maxRecDepth 100000 in
theorem w_La_about1 (l : Launch) (E : zE) (Γ : zG) (n : Nat) (M : zM) (x o : Nat) (a1 a2 a3 : Int32) (S : zM → Prop) (hg : Γ x = some (0, 6)) (hC : zCx l E Y_Sr_about 7 (1, 6) [.ref x, .int a1, .int a2, .int a3] Γ n M "java/lang/IndexOutOfBoundsException" (n + 1) S) : zCw l E Y_La_about hh_about 8 (1, 6) [.ref x, .int a1, .int a2, .int a3, .ref o] Γ n M (zPi Γ (n + 1) (fun v M' => v = nI 1 ∧ S M')) := by
  refine zCw.of [(0, .ref x), (1, .int a1), (2, .int a2), (3, .int a3), (4, .ref o)] (by decide) (Nat.le_of_ble_eq_true rfl) rfl (fun f hfl hx htab hQ => ?_)
  subst hfl
  refine g_aload (q := 2) hx d_La_about_0 rfl rfl ?_
  refine g_iconst (q := 3) (v := nI 0) hx d_La_about_2 rfl (by decide) ?_
  refine g_aload_n (q := 4) hx d_La_about_3 rfl rfl ?_
  refine g_iload_n (q := 5) hx d_La_about_4 rfl rfl ?_
  refine g_iload_n (q := 6) hx d_La_about_5 rfl rfl ?_
  refine g_iload_n (q := 7) hx d_La_about_6 rfl rfl ?_
  refine g_cat hx d_La_about_7 lk_La_33 ml_La_33 rfl rfl hg rfl rfl (Nat.le_of_ble_eq_true rfl) (by decide) (by decide) (by decide) hC [] ⟨0, 12, 15, 23⟩ [⟨0, 12, 19, 13⟩] htab (fun z hz => nomatch hz) rfl (by decide) cl_La_23 ca_IO (fun q M1 hS => ?_)
  show zGo f E Γ (n + 1) (1, 6) M1 15 _ _
  refine g_astore (q := 17) (lc' := [(5, _), (0, _), (1, _), (2, _), (3, _), (4, _)]) hx d_La_about_15 rfl (by decide) rfl ?_
  refine g_iconst (q := 18) (v := nI 1) hx d_La_about_17 rfl (by decide) ?_
  exact g_iret hx d_La_about_18 rfl hQ ⟨Nat.le_refl _, Nat.le_refl _⟩ ⟨_, rfl, rfl, rfl, rfl, hS⟩
set_option maxHeartbeats 4000000 in
set_option maxRecDepth 100000 in
theorem w_La_about2 (l : Launch) (E : zE) (Γ : zG) (n : Nat) (M : zM) (x o : Nat) (a1 a2 a3 : Int32) (S : zM → Prop) (hg : Γ x = some (0, 6)) (hC : zCx l E Y_Sr_about 7 (1, 6) [.ref x, .int a1, .int a2, .int a3] Γ n M "java/lang/IllegalArgumentException" (n + 1) S) : zCw l E Y_La_about hh_about 8 (1, 6) [.ref x, .int a1, .int a2, .int a3, .ref o] Γ n M (zPi Γ (n + 1) (fun v M' => v = nI 2 ∧ S M')) := by
  refine zCw.of [(0, .ref x), (1, .int a1), (2, .int a2), (3, .int a3), (4, .ref o)] (by decide) (Nat.le_of_ble_eq_true rfl) rfl (fun f hfl hx htab hQ => ?_)
  subst hfl
  refine g_aload (q := 2) hx d_La_about_0 rfl rfl ?_
  refine g_iconst (q := 3) (v := nI 0) hx d_La_about_2 rfl (by decide) ?_
  refine g_aload_n (q := 4) hx d_La_about_3 rfl rfl ?_
  refine g_iload_n (q := 5) hx d_La_about_4 rfl rfl ?_
  refine g_iload_n (q := 6) hx d_La_about_5 rfl rfl ?_
  refine g_iload_n (q := 7) hx d_La_about_6 rfl rfl ?_
  refine g_cat hx d_La_about_7 lk_La_33 ml_La_33 rfl rfl hg rfl rfl (Nat.le_of_ble_eq_true rfl) (by decide) (by decide) (by decide) hC [⟨0, 12, 15, 23⟩] ⟨0, 12, 19, 13⟩ [] htab (fun z hz => by
      simp only [List.mem_cons, List.not_mem_nil, or_false] at hz
      rcases hz with rfl
      · exact ⟨by decide, _, cl_La_23, by decide +kernel⟩) rfl (by decide) cl_La_13 ca_IA (fun q M1 hS => ?_)
  show zGo f E Γ (n + 1) (1, 6) M1 19 _ _
  refine g_astore (q := 21) (lc' := [(5, _), (0, _), (1, _), (2, _), (3, _), (4, _)]) hx d_La_about_19 rfl (by decide) rfl ?_
  refine g_iconst (q := 22) (v := nI 2) hx d_La_about_21 rfl (by decide) ?_
  exact g_iret hx d_La_about_22 rfl hQ ⟨Nat.le_refl _, Nat.le_refl _⟩ ⟨_, rfl, rfl, rfl, rfl, hS⟩
abbrev hh_base : List (Nat × Nat × Nat × Nat) := [(0, 12, 15, 23)]
theorem lw_La_91 : zLw "SlicedReadsLaw" 91 Y_La_base hh_base 5 := ⟨zmem 561 (by decide +kernel) rfl, zmem 562 (by decide +kernel) rfl, zmem 30 (by decide +kernel) rfl, zmem 563 (by decide +kernel) rfl, by decide, by decide, by decide +kernel, by decide⟩
theorem ml_La_37 : Cond.methodLink "SlicedReadsLaw" 37 Y_Sr_base.1 ∈ zWs := zmem 564 (by decide +kernel) rfl
set_option maxHeartbeats 4000000 in
set_option maxRecDepth 100000 in
theorem w_La_base0 (l : Launch) (E : zE) (Γ : zG) (n : Nat) (M : zM) (x o : Nat) (a1 a2 a3 : Int32) (S : zM → Prop) (hg : Γ x = some (0, 6)) (r : Int32) (ho : Γ o = some (2, 1)) (hC : zCt l E Y_Sr_base 7 (0, 0) [.ref x, .int a1, .int a2, .int a3] Γ n M (zPi Γ n (fun v M' => v = r ∧ S M'))) : zCw l E Y_La_base hh_base 8 (0, 0) [.ref x, .int a1, .int a2, .int a3, .ref o] Γ n M (zPi Γ n (fun v M' => v = nI 0 ∧ ∃ M1, S M1 ∧ M' = zsl M1 o 0 r.toInt64)) := by
  refine zCw.of [(0, .ref x), (1, .int a1), (2, .int a2), (3, .int a3), (4, .ref o)] (by decide) (Nat.le_of_ble_eq_true rfl) rfl (fun f hfl hx htab hQ => ?_)
  subst hfl
  refine g_aload (q := 2) hx d_La_base_0 rfl rfl ?_
  refine g_iconst (q := 3) (v := nI 0) hx d_La_base_2 rfl (by decide) ?_
  refine g_aload_n (q := 4) hx d_La_base_3 rfl rfl ?_
  refine g_iload_n (q := 5) hx d_La_base_4 rfl rfl ?_
  refine g_iload_n (q := 6) hx d_La_base_5 rfl rfl ?_
  refine g_iload_n (q := 7) hx d_La_base_6 rfl rfl ?_
  refine g_ci (q := 10) (zrunV hx d_La_base_7 lk_La_37 rfl rfl hg rfl rfl (Nat.le_of_ble_eq_true rfl) (by decide) (by decide) (by decide) (hC)) rfl (fun r7 M7 p7 => ?_)
  obtain ⟨rfl, hS⟩ := p7
  refine g_i2l (q := 11) hx d_La_base_10 rfl rfl ?_
  refine g_last (q := 12) hx d_La_base_11 rfl ho rfl (by decide) (by decide) ?_
  refine g_goto (q := 19) hx d_La_base_12 rfl ?_
  refine g_iconst (q := 20) (v := nI 0) hx d_La_base_19 rfl (by decide) ?_
  exact g_iret hx d_La_base_20 rfl hQ ⟨Nat.le_refl _, Nat.le_refl _⟩ ⟨_, rfl, rfl, rfl, rfl, _, hS, rfl⟩
set_option maxHeartbeats 4000000 in
set_option maxRecDepth 100000 in
theorem w_La_base1 (l : Launch) (E : zE) (Γ : zG) (n : Nat) (M : zM) (x o : Nat) (a1 a2 a3 : Int32) (S : zM → Prop) (hg : Γ x = some (0, 6)) (hC : zCx l E Y_Sr_base 7 (1, 6) [.ref x, .int a1, .int a2, .int a3] Γ n M "java/lang/IndexOutOfBoundsException" (n + 1) S) : zCw l E Y_La_base hh_base 8 (1, 6) [.ref x, .int a1, .int a2, .int a3, .ref o] Γ n M (zPi Γ (n + 1) (fun v M' => v = nI 1 ∧ S M')) := by
  refine zCw.of [(0, .ref x), (1, .int a1), (2, .int a2), (3, .int a3), (4, .ref o)] (by decide) (Nat.le_of_ble_eq_true rfl) rfl (fun f hfl hx htab hQ => ?_)
  subst hfl
  refine g_aload (q := 2) hx d_La_base_0 rfl rfl ?_
  refine g_iconst (q := 3) (v := nI 0) hx d_La_base_2 rfl (by decide) ?_
  refine g_aload_n (q := 4) hx d_La_base_3 rfl rfl ?_
  refine g_iload_n (q := 5) hx d_La_base_4 rfl rfl ?_
  refine g_iload_n (q := 6) hx d_La_base_5 rfl rfl ?_
  refine g_iload_n (q := 7) hx d_La_base_6 rfl rfl ?_
  refine g_cat hx d_La_base_7 lk_La_37 ml_La_37 rfl rfl hg rfl rfl (Nat.le_of_ble_eq_true rfl) (by decide) (by decide) (by decide) hC [] ⟨0, 12, 15, 23⟩ [] htab (fun z hz => nomatch hz) rfl (by decide) cl_La_23 ca_IO (fun q M1 hS => ?_)
  show zGo f E Γ (n + 1) (1, 6) M1 15 _ _
  refine g_astore (q := 17) (lc' := [(5, _), (0, _), (1, _), (2, _), (3, _), (4, _)]) hx d_La_base_15 rfl (by decide) rfl ?_
  refine g_iconst (q := 18) (v := nI 1) hx d_La_base_17 rfl (by decide) ?_
  exact g_iret hx d_La_base_18 rfl hQ ⟨Nat.le_refl _, Nat.le_refl _⟩ ⟨_, rfl, rfl, rfl, rfl, hS⟩
abbrev hh_at : List (Nat × Nat × Nat × Nat) := [(0, 9, 12, 23)]
theorem lw_La_106 : zLw "SlicedReadsLaw" 106 Y_La_at hh_at 3 := ⟨zmem 569 (by decide +kernel) rfl, zmem 570 (by decide +kernel) rfl, zmem 30 (by decide +kernel) rfl, zmem 571 (by decide +kernel) rfl, by decide, by decide, by decide +kernel, by decide⟩
theorem ml_La_40 : Cond.methodLink "SlicedReadsLaw" 40 Y_Sr_at.1 ∈ zWs := zmem 572 (by decide +kernel) rfl
set_option maxHeartbeats 4000000 in
set_option maxRecDepth 100000 in
theorem w_La_at0 (l : Launch) (E : zE) (Γ : zG) (n : Nat) (M : zM) (x o : Nat) (a1 : Int32) (S : zM → Prop) (hg : Γ x = some (0, 6)) (r : Int32) (ho : Γ o = some (2, 1)) (hC : zCt l E Y_Sr_at 7 (0, 0) [.ref x, .int a1] Γ n M (zPi Γ n (fun v M' => v = r ∧ S M'))) : zCw l E Y_La_at hh_at 8 (0, 0) [.ref x, .int a1, .ref o] Γ n M (zPi Γ n (fun v M' => v = nI 0 ∧ ∃ M1, S M1 ∧ M' = zsl M1 o 0 r.toInt64)) := by
  refine zCw.of [(0, .ref x), (1, .int a1), (2, .ref o)] (by decide) (Nat.le_of_ble_eq_true rfl) rfl (fun f hfl hx htab hQ => ?_)
  subst hfl
  refine g_aload_n (q := 1) hx d_La_at_0 rfl rfl ?_
  refine g_iconst (q := 2) (v := nI 0) hx d_La_at_1 rfl (by decide) ?_
  refine g_aload_n (q := 3) hx d_La_at_2 rfl rfl ?_
  refine g_iload_n (q := 4) hx d_La_at_3 rfl rfl ?_
  refine g_ci (q := 7) (zrunV hx d_La_at_4 lk_La_40 rfl rfl hg rfl rfl (Nat.le_of_ble_eq_true rfl) (by decide) (by decide) (by decide) (hC)) rfl (fun r4 M4 p4 => ?_)
  obtain ⟨rfl, hS⟩ := p4
  refine g_i2l (q := 8) hx d_La_at_7 rfl rfl ?_
  refine g_last (q := 9) hx d_La_at_8 rfl ho rfl (by decide) (by decide) ?_
  refine g_goto (q := 15) hx d_La_at_9 rfl ?_
  refine g_iconst (q := 16) (v := nI 0) hx d_La_at_15 rfl (by decide) ?_
  exact g_iret hx d_La_at_16 rfl hQ ⟨Nat.le_refl _, Nat.le_refl _⟩ ⟨_, rfl, rfl, rfl, rfl, _, hS, rfl⟩
set_option maxHeartbeats 4000000 in
set_option maxRecDepth 100000 in
theorem w_La_at1 (l : Launch) (E : zE) (Γ : zG) (n : Nat) (M : zM) (x o : Nat) (a1 : Int32) (S : zM → Prop) (hg : Γ x = some (0, 6)) (hC : zCx l E Y_Sr_at 7 (1, 6) [.ref x, .int a1] Γ n M "java/lang/IndexOutOfBoundsException" (n + 1) S) : zCw l E Y_La_at hh_at 8 (1, 6) [.ref x, .int a1, .ref o] Γ n M (zPi Γ (n + 1) (fun v M' => v = nI 1 ∧ S M')) := by
  refine zCw.of [(0, .ref x), (1, .int a1), (2, .ref o)] (by decide) (Nat.le_of_ble_eq_true rfl) rfl (fun f hfl hx htab hQ => ?_)
  subst hfl
  refine g_aload_n (q := 1) hx d_La_at_0 rfl rfl ?_
  refine g_iconst (q := 2) (v := nI 0) hx d_La_at_1 rfl (by decide) ?_
  refine g_aload_n (q := 3) hx d_La_at_2 rfl rfl ?_
  refine g_iload_n (q := 4) hx d_La_at_3 rfl rfl ?_
  refine g_cat hx d_La_at_4 lk_La_40 ml_La_40 rfl rfl hg rfl rfl (Nat.le_of_ble_eq_true rfl) (by decide) (by decide) (by decide) hC [] ⟨0, 9, 12, 23⟩ [] htab (fun z hz => nomatch hz) rfl (by decide) cl_La_23 ca_IO (fun q M1 hS => ?_)
  show zGo f E Γ (n + 1) (1, 6) M1 12 _ _
  refine g_astore_n (q := 13) (lc' := [(3, _), (0, _), (1, _), (2, _)]) hx d_La_at_12 rfl (by decide) rfl ?_
  refine g_iconst (q := 14) (v := nI 1) hx d_La_at_13 rfl (by decide) ?_
  exact g_iret hx d_La_at_14 rfl hQ ⟨Nat.le_refl _, Nat.le_refl _⟩ ⟨_, rfl, rfl, rfl, rfl, hS⟩
abbrev hh_corrupt : List (Nat × Nat × Nat × Nat) := [(0, 6, 9, 23), (0, 6, 12, 13)]
theorem lw_La_110 : zLw "SlicedReadsLaw" 110 Y_La_corrupt hh_corrupt 3 := ⟨zmem 578 (by decide +kernel) rfl, zmem 579 (by decide +kernel) rfl, zmem 30 (by decide +kernel) rfl, zmem 580 (by decide +kernel) rfl, by decide, by decide, by decide +kernel, by decide⟩
theorem ml_La_44 : Cond.methodLink "SlicedReadsLaw" 44 Y_Sr_corrupt.1 ∈ zWs := zmem 581 (by decide +kernel) rfl
set_option maxHeartbeats 4000000 in
set_option maxRecDepth 100000 in
theorem w_La_corrupt0 (l : Launch) (E : zE) (Γ : zG) (n : Nat) (M : zM) (x : Nat) (a1 a2 : Int32) (S : zM → Prop) (hg : Γ x = some (0, 6)) (hC : zCt l E Y_Sr_corrupt 7 (0, 0) [.ref x, .int a1, .int a2] Γ n M (zPv Γ n S)) : zCw l E Y_La_corrupt hh_corrupt 8 (0, 0) [.ref x, .int a1, .int a2] Γ n M (zPi Γ n (fun v M' => v = nI 0 ∧ S M')) := by
  refine zCw.of [(0, .ref x), (1, .int a1), (2, .int a2)] (by decide) (Nat.le_of_ble_eq_true rfl) rfl (fun f hfl hx htab hQ => ?_)
  subst hfl
  refine g_aload_n (q := 1) hx d_La_corrupt_0 rfl rfl ?_
  refine g_iload_n (q := 2) hx d_La_corrupt_1 rfl rfl ?_
  refine g_iload_n (q := 3) hx d_La_corrupt_2 rfl rfl ?_
  refine g_cv (q := 6) (zrunV hx d_La_corrupt_3 lk_La_44 rfl rfl hg rfl rfl (Nat.le_of_ble_eq_true rfl) (by decide) (by decide) (by decide) (hC)) rfl (fun M3 p3 => ?_)
  refine g_goto (q := 15) hx d_La_corrupt_6 rfl ?_
  refine g_iconst (q := 16) (v := nI 0) hx d_La_corrupt_15 rfl (by decide) ?_
  exact g_iret hx d_La_corrupt_16 rfl hQ ⟨Nat.le_refl _, Nat.le_refl _⟩ ⟨_, rfl, rfl, rfl, rfl, p3⟩
set_option maxHeartbeats 4000000 in
set_option maxRecDepth 100000 in
theorem w_La_corrupt1 (l : Launch) (E : zE) (Γ : zG) (n : Nat) (M : zM) (x : Nat) (a1 a2 : Int32) (S : zM → Prop) (hg : Γ x = some (0, 6)) (hC : zCx l E Y_Sr_corrupt 7 (1, 6) [.ref x, .int a1, .int a2] Γ n M "java/lang/IndexOutOfBoundsException" (n + 1) S) : zCw l E Y_La_corrupt hh_corrupt 8 (1, 6) [.ref x, .int a1, .int a2] Γ n M (zPi Γ (n + 1) (fun v M' => v = nI 1 ∧ S M')) := by
  refine zCw.of [(0, .ref x), (1, .int a1), (2, .int a2)] (by decide) (Nat.le_of_ble_eq_true rfl) rfl (fun f hfl hx htab hQ => ?_)
  subst hfl
  refine g_aload_n (q := 1) hx d_La_corrupt_0 rfl rfl ?_
  refine g_iload_n (q := 2) hx d_La_corrupt_1 rfl rfl ?_
  refine g_iload_n (q := 3) hx d_La_corrupt_2 rfl rfl ?_
  refine g_cat hx d_La_corrupt_3 lk_La_44 ml_La_44 rfl rfl hg rfl rfl (Nat.le_of_ble_eq_true rfl) (by decide) (by decide) (by decide) hC [] ⟨0, 6, 9, 23⟩ [⟨0, 6, 12, 13⟩] htab (fun z hz => nomatch hz) rfl (by decide) cl_La_23 ca_IO (fun q M1 hS => ?_)
  show zGo f E Γ (n + 1) (1, 6) M1 9 _ _
  refine g_astore_n (q := 10) (lc' := [(3, _), (0, _), (1, _), (2, _)]) hx d_La_corrupt_9 rfl (by decide) rfl ?_
  refine g_iconst (q := 11) (v := nI 1) hx d_La_corrupt_10 rfl (by decide) ?_
  exact g_iret hx d_La_corrupt_11 rfl hQ ⟨Nat.le_refl _, Nat.le_refl _⟩ ⟨_, rfl, rfl, rfl, rfl, hS⟩
set_option maxHeartbeats 4000000 in
set_option maxRecDepth 100000 in
theorem w_La_corrupt2 (l : Launch) (E : zE) (Γ : zG) (n : Nat) (M : zM) (x : Nat) (a1 a2 : Int32) (S : zM → Prop) (hg : Γ x = some (0, 6)) (hC : zCx l E Y_Sr_corrupt 7 (1, 6) [.ref x, .int a1, .int a2] Γ n M "java/lang/IllegalArgumentException" (n + 1) S) : zCw l E Y_La_corrupt hh_corrupt 8 (1, 6) [.ref x, .int a1, .int a2] Γ n M (zPi Γ (n + 1) (fun v M' => v = nI 2 ∧ S M')) := by
  refine zCw.of [(0, .ref x), (1, .int a1), (2, .int a2)] (by decide) (Nat.le_of_ble_eq_true rfl) rfl (fun f hfl hx htab hQ => ?_)
  subst hfl
  refine g_aload_n (q := 1) hx d_La_corrupt_0 rfl rfl ?_
  refine g_iload_n (q := 2) hx d_La_corrupt_1 rfl rfl ?_
  refine g_iload_n (q := 3) hx d_La_corrupt_2 rfl rfl ?_
  refine g_cat hx d_La_corrupt_3 lk_La_44 ml_La_44 rfl rfl hg rfl rfl (Nat.le_of_ble_eq_true rfl) (by decide) (by decide) (by decide) hC [⟨0, 6, 9, 23⟩] ⟨0, 6, 12, 13⟩ [] htab (fun z hz => by
      simp only [List.mem_cons, List.not_mem_nil, or_false] at hz
      rcases hz with rfl
      · exact ⟨by decide, _, cl_La_23, by decide +kernel⟩) rfl (by decide) cl_La_13 ca_IA (fun q M1 hS => ?_)
  show zGo f E Γ (n + 1) (1, 6) M1 12 _ _
  refine g_astore_n (q := 13) (lc' := [(3, _), (0, _), (1, _), (2, _)]) hx d_La_corrupt_12 rfl (by decide) rfl ?_
  refine g_iconst (q := 14) (v := nI 2) hx d_La_corrupt_13 rfl (by decide) ?_
  exact g_iret hx d_La_corrupt_14 rfl hQ ⟨Nat.le_refl _, Nat.le_refl _⟩ ⟨_, rfl, rfl, rfl, rfl, hS⟩
abbrev hh_unpack : List (Nat × Nat × Nat × Nat) := [(0, 9, 12, 23), (0, 9, 15, 13)]
theorem lw_La_113 : zLw "SlicedReadsLaw" 113 Y_La_unpack hh_unpack 3 := ⟨zmem 586 (by decide +kernel) rfl, zmem 587 (by decide +kernel) rfl, zmem 30 (by decide +kernel) rfl, zmem 588 (by decide +kernel) rfl, by decide, by decide, by decide +kernel, by decide⟩
theorem ml_La_47 : Cond.methodLink "SlicedReadsLaw" 47 Y_Sr_unpack.1 ∈ zWs := zmem 589 (by decide +kernel) rfl
set_option maxHeartbeats 4000000 in
set_option maxRecDepth 100000 in
theorem w_La_unpack0 (l : Launch) (E : zE) (Γ : zG) (n : Nat) (M : zM) (x o : Nat) (a1 : Int32) (S : zM → Prop) (hg : Γ x = some (0, 6)) (r : Int32) (ho : Γ o = some (2, 1)) (hC : zCt l E Y_Sr_unpack 7 (0, 0) [.ref x, .int a1] Γ n M (zPi Γ n (fun v M' => v = r ∧ S M'))) : zCw l E Y_La_unpack hh_unpack 8 (0, 0) [.ref x, .int a1, .ref o] Γ n M (zPi Γ n (fun v M' => v = nI 0 ∧ ∃ M1, S M1 ∧ M' = zsl M1 o 0 r.toInt64)) := by
  refine zCw.of [(0, .ref x), (1, .int a1), (2, .ref o)] (by decide) (Nat.le_of_ble_eq_true rfl) rfl (fun f hfl hx htab hQ => ?_)
  subst hfl
  refine g_aload_n (q := 1) hx d_La_unpack_0 rfl rfl ?_
  refine g_iconst (q := 2) (v := nI 0) hx d_La_unpack_1 rfl (by decide) ?_
  refine g_aload_n (q := 3) hx d_La_unpack_2 rfl rfl ?_
  refine g_iload_n (q := 4) hx d_La_unpack_3 rfl rfl ?_
  refine g_ci (q := 7) (zrunV hx d_La_unpack_4 lk_La_47 rfl rfl hg rfl rfl (Nat.le_of_ble_eq_true rfl) (by decide) (by decide) (by decide) (hC)) rfl (fun r4 M4 p4 => ?_)
  obtain ⟨rfl, hS⟩ := p4
  refine g_i2l (q := 8) hx d_La_unpack_7 rfl rfl ?_
  refine g_last (q := 9) hx d_La_unpack_8 rfl ho rfl (by decide) (by decide) ?_
  refine g_goto (q := 18) hx d_La_unpack_9 rfl ?_
  refine g_iconst (q := 19) (v := nI 0) hx d_La_unpack_18 rfl (by decide) ?_
  exact g_iret hx d_La_unpack_19 rfl hQ ⟨Nat.le_refl _, Nat.le_refl _⟩ ⟨_, rfl, rfl, rfl, rfl, _, hS, rfl⟩
set_option maxHeartbeats 4000000 in
set_option maxRecDepth 100000 in
theorem w_La_unpack1 (l : Launch) (E : zE) (Γ : zG) (n : Nat) (M : zM) (x o : Nat) (a1 : Int32) (S : zM → Prop) (hg : Γ x = some (0, 6)) (hC : zCx l E Y_Sr_unpack 7 (1, 6) [.ref x, .int a1] Γ n M "java/lang/IndexOutOfBoundsException" (n + 1) S) : zCw l E Y_La_unpack hh_unpack 8 (1, 6) [.ref x, .int a1, .ref o] Γ n M (zPi Γ (n + 1) (fun v M' => v = nI 1 ∧ S M')) := by
  refine zCw.of [(0, .ref x), (1, .int a1), (2, .ref o)] (by decide) (Nat.le_of_ble_eq_true rfl) rfl (fun f hfl hx htab hQ => ?_)
  subst hfl
  refine g_aload_n (q := 1) hx d_La_unpack_0 rfl rfl ?_
  refine g_iconst (q := 2) (v := nI 0) hx d_La_unpack_1 rfl (by decide) ?_
  refine g_aload_n (q := 3) hx d_La_unpack_2 rfl rfl ?_
  refine g_iload_n (q := 4) hx d_La_unpack_3 rfl rfl ?_
  refine g_cat hx d_La_unpack_4 lk_La_47 ml_La_47 rfl rfl hg rfl rfl (Nat.le_of_ble_eq_true rfl) (by decide) (by decide) (by decide) hC [] ⟨0, 9, 12, 23⟩ [⟨0, 9, 15, 13⟩] htab (fun z hz => nomatch hz) rfl (by decide) cl_La_23 ca_IO (fun q M1 hS => ?_)
  show zGo f E Γ (n + 1) (1, 6) M1 12 _ _
  refine g_astore_n (q := 13) (lc' := [(3, _), (0, _), (1, _), (2, _)]) hx d_La_unpack_12 rfl (by decide) rfl ?_
  refine g_iconst (q := 14) (v := nI 1) hx d_La_unpack_13 rfl (by decide) ?_
  exact g_iret hx d_La_unpack_14 rfl hQ ⟨Nat.le_refl _, Nat.le_refl _⟩ ⟨_, rfl, rfl, rfl, rfl, hS⟩
set_option maxHeartbeats 4000000 in
set_option maxRecDepth 100000 in
theorem w_La_unpack2 (l : Launch) (E : zE) (Γ : zG) (n : Nat) (M : zM) (x o : Nat) (a1 : Int32) (S : zM → Prop) (hg : Γ x = some (0, 6)) (hC : zCx l E Y_Sr_unpack 7 (1, 6) [.ref x, .int a1] Γ n M "java/lang/IllegalArgumentException" (n + 1) S) : zCw l E Y_La_unpack hh_unpack 8 (1, 6) [.ref x, .int a1, .ref o] Γ n M (zPi Γ (n + 1) (fun v M' => v = nI 2 ∧ S M')) := by
  refine zCw.of [(0, .ref x), (1, .int a1), (2, .ref o)] (by decide) (Nat.le_of_ble_eq_true rfl) rfl (fun f hfl hx htab hQ => ?_)
  subst hfl
  refine g_aload_n (q := 1) hx d_La_unpack_0 rfl rfl ?_
  refine g_iconst (q := 2) (v := nI 0) hx d_La_unpack_1 rfl (by decide) ?_
  refine g_aload_n (q := 3) hx d_La_unpack_2 rfl rfl ?_
  refine g_iload_n (q := 4) hx d_La_unpack_3 rfl rfl ?_
  refine g_cat hx d_La_unpack_4 lk_La_47 ml_La_47 rfl rfl hg rfl rfl (Nat.le_of_ble_eq_true rfl) (by decide) (by decide) (by decide) hC [⟨0, 9, 12, 23⟩] ⟨0, 9, 15, 13⟩ [] htab (fun z hz => by
      simp only [List.mem_cons, List.not_mem_nil, or_false] at hz
      rcases hz with rfl
      · exact ⟨by decide, _, cl_La_23, by decide +kernel⟩) rfl (by decide) cl_La_13 ca_IA (fun q M1 hS => ?_)
  show zGo f E Γ (n + 1) (1, 6) M1 15 _ _
  refine g_astore_n (q := 16) (lc' := [(3, _), (0, _), (1, _), (2, _)]) hx d_La_unpack_15 rfl (by decide) rfl ?_
  refine g_iconst (q := 17) (v := nI 2) hx d_La_unpack_16 rfl (by decide) ?_
  exact g_iret hx d_La_unpack_17 rfl hQ ⟨Nat.le_refl _, Nat.le_refl _⟩ ⟨_, rfl, rfl, rfl, rfl, hS⟩
abbrev hh_depth : List (Nat × Nat × Nat × Nat) := [(0, 9, 12, 23), (0, 9, 15, 13)]
theorem lw_La_116 : zLw "SlicedReadsLaw" 116 Y_La_depth hh_depth 3 := ⟨zmem 644 (by decide +kernel) rfl, zmem 645 (by decide +kernel) rfl, zmem 30 (by decide +kernel) rfl, zmem 646 (by decide +kernel) rfl, by decide, by decide, by decide +kernel, by decide⟩
theorem ml_La_50 : Cond.methodLink "SlicedReadsLaw" 50 Y_Sr_depth.1 ∈ zWs := zmem 647 (by decide +kernel) rfl
set_option maxHeartbeats 4000000 in
set_option maxRecDepth 100000 in
theorem w_La_depth0 (l : Launch) (E : zE) (Γ : zG) (n : Nat) (M : zM) (x o : Nat) (a1 : Int32) (S : zM → Prop) (hg : Γ x = some (0, 6)) (r : Int32) (ho : Γ o = some (2, 1)) (hC : zCt l E Y_Sr_depth 7 (0, 0) [.ref x, .int a1] Γ n M (zPi Γ n (fun v M' => v = r ∧ S M'))) : zCw l E Y_La_depth hh_depth 8 (0, 0) [.ref x, .int a1, .ref o] Γ n M (zPi Γ n (fun v M' => v = nI 0 ∧ ∃ M1, S M1 ∧ M' = zsl M1 o 0 r.toInt64)) := by
  refine zCw.of [(0, .ref x), (1, .int a1), (2, .ref o)] (by decide) (Nat.le_of_ble_eq_true rfl) rfl (fun f hfl hx htab hQ => ?_)
  subst hfl
  refine g_aload_n (q := 1) hx d_La_depth_0 rfl rfl ?_
  refine g_iconst (q := 2) (v := nI 0) hx d_La_depth_1 rfl (by decide) ?_
  refine g_aload_n (q := 3) hx d_La_depth_2 rfl rfl ?_
  refine g_iload_n (q := 4) hx d_La_depth_3 rfl rfl ?_
  refine g_ci (q := 7) (zrunV hx d_La_depth_4 lk_La_50 rfl rfl hg rfl rfl (Nat.le_of_ble_eq_true rfl) (by decide) (by decide) (by decide) (hC)) rfl (fun r4 M4 p4 => ?_)
  obtain ⟨rfl, hS⟩ := p4
  refine g_i2l (q := 8) hx d_La_depth_7 rfl rfl ?_
  refine g_last (q := 9) hx d_La_depth_8 rfl ho rfl (by decide) (by decide) ?_
  refine g_goto (q := 18) hx d_La_depth_9 rfl ?_
  refine g_iconst (q := 19) (v := nI 0) hx d_La_depth_18 rfl (by decide) ?_
  exact g_iret hx d_La_depth_19 rfl hQ ⟨Nat.le_refl _, Nat.le_refl _⟩ ⟨_, rfl, rfl, rfl, rfl, _, hS, rfl⟩
set_option maxHeartbeats 4000000 in
set_option maxRecDepth 100000 in
theorem w_La_depth1 (l : Launch) (E : zE) (Γ : zG) (n : Nat) (M : zM) (x o : Nat) (a1 : Int32) (S : zM → Prop) (hg : Γ x = some (0, 6)) (hC : zCx l E Y_Sr_depth 7 (1, 6) [.ref x, .int a1] Γ n M "java/lang/IndexOutOfBoundsException" (n + 1) S) : zCw l E Y_La_depth hh_depth 8 (1, 6) [.ref x, .int a1, .ref o] Γ n M (zPi Γ (n + 1) (fun v M' => v = nI 1 ∧ S M')) := by
  refine zCw.of [(0, .ref x), (1, .int a1), (2, .ref o)] (by decide) (Nat.le_of_ble_eq_true rfl) rfl (fun f hfl hx htab hQ => ?_)
  subst hfl
  refine g_aload_n (q := 1) hx d_La_depth_0 rfl rfl ?_
  refine g_iconst (q := 2) (v := nI 0) hx d_La_depth_1 rfl (by decide) ?_
  refine g_aload_n (q := 3) hx d_La_depth_2 rfl rfl ?_
  refine g_iload_n (q := 4) hx d_La_depth_3 rfl rfl ?_
  refine g_cat hx d_La_depth_4 lk_La_50 ml_La_50 rfl rfl hg rfl rfl (Nat.le_of_ble_eq_true rfl) (by decide) (by decide) (by decide) hC [] ⟨0, 9, 12, 23⟩ [⟨0, 9, 15, 13⟩] htab (fun z hz => nomatch hz) rfl (by decide) cl_La_23 ca_IO (fun q M1 hS => ?_)
  show zGo f E Γ (n + 1) (1, 6) M1 12 _ _
  refine g_astore_n (q := 13) (lc' := [(3, _), (0, _), (1, _), (2, _)]) hx d_La_depth_12 rfl (by decide) rfl ?_
  refine g_iconst (q := 14) (v := nI 1) hx d_La_depth_13 rfl (by decide) ?_
  exact g_iret hx d_La_depth_14 rfl hQ ⟨Nat.le_refl _, Nat.le_refl _⟩ ⟨_, rfl, rfl, rfl, rfl, hS⟩
set_option maxHeartbeats 4000000 in
set_option maxRecDepth 100000 in
theorem w_La_depth2 (l : Launch) (E : zE) (Γ : zG) (n : Nat) (M : zM) (x o : Nat) (a1 : Int32) (S : zM → Prop) (hg : Γ x = some (0, 6)) (hC : zCx l E Y_Sr_depth 7 (1, 6) [.ref x, .int a1] Γ n M "java/lang/IllegalArgumentException" (n + 1) S) : zCw l E Y_La_depth hh_depth 8 (1, 6) [.ref x, .int a1, .ref o] Γ n M (zPi Γ (n + 1) (fun v M' => v = nI 2 ∧ S M')) := by
  refine zCw.of [(0, .ref x), (1, .int a1), (2, .ref o)] (by decide) (Nat.le_of_ble_eq_true rfl) rfl (fun f hfl hx htab hQ => ?_)
  subst hfl
  refine g_aload_n (q := 1) hx d_La_depth_0 rfl rfl ?_
  refine g_iconst (q := 2) (v := nI 0) hx d_La_depth_1 rfl (by decide) ?_
  refine g_aload_n (q := 3) hx d_La_depth_2 rfl rfl ?_
  refine g_iload_n (q := 4) hx d_La_depth_3 rfl rfl ?_
  refine g_cat hx d_La_depth_4 lk_La_50 ml_La_50 rfl rfl hg rfl rfl (Nat.le_of_ble_eq_true rfl) (by decide) (by decide) (by decide) hC [⟨0, 9, 12, 23⟩] ⟨0, 9, 15, 13⟩ [] htab (fun z hz => by
      simp only [List.mem_cons, List.not_mem_nil, or_false] at hz
      rcases hz with rfl
      · exact ⟨by decide, _, cl_La_23, by decide +kernel⟩) rfl (by decide) cl_La_13 ca_IA (fun q M1 hS => ?_)
  show zGo f E Γ (n + 1) (1, 6) M1 15 _ _
  refine g_astore_n (q := 16) (lc' := [(3, _), (0, _), (1, _), (2, _)]) hx d_La_depth_15 rfl (by decide) rfl ?_
  refine g_iconst (q := 17) (v := nI 2) hx d_La_depth_16 rfl (by decide) ?_
  exact g_iret hx d_La_depth_17 rfl hQ ⟨Nat.le_refl _, Nat.le_refl _⟩ ⟨_, rfl, rfl, rfl, rfl, hS⟩
