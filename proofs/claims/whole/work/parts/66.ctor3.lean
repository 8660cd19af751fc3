/-! the two great constructors -/
theorem g_putFo {f : zF} {E : zE} {Y : zY} {d : Nat} {kk : Nat × Nat} {Γ : zG} {n : Nat} {k : Nat × Nat} {M : zM} {pc q : Nat} {lc : List (Nat × Value)} {st : List Value} {i c j a b : Nat} {t : String} (hx : zOk f E Y d kk) (hd : decode Y.2.1 pc = .ok (.putfield i, 3)) (hq : pc + 3 = q) (hf : zFl Y.1.cls i c j (.object t)) (hfi : zFi Y.1.cls c j) (hin : Y.1.name = "<init>") (hg : Γ a = some (0, c)) (hb : b ≠ 0) (hnq : zNs.any (zNq Y.1.cls i) = false)
    (kk9 : zGo f E Γ n k (zsr M a j b) q lc st) : zGo f E Γ n k M pc lc (.ref b :: .ref a :: st) := by
  have hty : zTy c j = .object t := by obtain ⟨_, _, _, _, h, _⟩ := hf; exact h
  exact g_putF hx hd hq hf hfi hin hg rfl rfl (z_nf hnq) (zcl_sr_n _ _ _ _) (fun j' => by rw [zcl_sr]; exact zV_upr (T := zTy c) (x := zcl M a) (fun y k => by rw [hty]; rfl) hb j') kk9
theorem z_gen {f : zF} {E : zE} {Γ : zG} {n : Nat} {k : Nat × Nat} {M : zM} {pc : Nat} {lc : List (Nat × Value)} {st : List Value} {Q : zG → zM → Prop} (n' : Nat) (k' : Nat × Nat) (hn : n = n') (hk : k = k') (h : Q Γ M) (kk9 : ∀ Γ M, Q Γ M → zGo f E Γ n' k' M pc lc st) : zGo f E Γ n k M pc lc st := by
  subst hn; subst hk; exact kk9 _ _ h
/-- below n nothing has changed -/
def kC (n : Nat) (Γ : zG) (M : zM) (Γ' : zG) (M' : zM) : Prop := ∀ b, b < n → Γ' b = Γ b ∧ M'.1 b = M.1 b ∧ M'.2.1 b = M.2.1 b ∧ M'.2.2 b = M.2.2 b
theorem kC.rf {n : Nat} {Γ : zG} {M : zM} : kC n Γ M Γ M := fun _ _ => ⟨rfl, rfl, rfl, rfl⟩
theorem kC.tr {n : Nat} {Γ Γ' Γ'' : zG} {M M' M'' : zM} (h : kC n Γ M Γ' M') (h' : kC n Γ' M' Γ'' M'') : kC n Γ M Γ'' M'' := fun b hb => ⟨(h' b hb).1.trans (h b hb).1, (h' b hb).2.1.trans (h b hb).2.1, (h' b hb).2.2.1.trans (h b hb).2.2.1, (h' b hb).2.2.2.trans (h b hb).2.2.2⟩
theorem kC.le {n n' : Nat} {Γ Γ' : zG} {M M' : zM} (h : kC n Γ M Γ' M') (hn : n' ≤ n) : kC n' Γ M Γ' M' := fun b hb => h b (by omega)
theorem kC.up {n a : Nat} {v : Option (Nat × Nat)} {Γ Γ' : zG} {M M' : zM} (h : kC n Γ M Γ' M') (hn : n ≤ a) : kC n Γ M (va_up Γ' a v) M' := fun b hb => ⟨(va_up_ne _ _ (by omega)).trans (h b hb).1, (h b hb).2⟩
theorem kC.push {n a : Nat} {Γ Γ' : zG} {M M' : zM} (h : kC n Γ M Γ' M') (hn : n ≤ a) : kC n Γ M Γ' (zpush M' a) := fun b hb => ⟨(h b hb).1, (va_up_ne _ _ (by omega)).trans (h b hb).2.1, (va_up_ne _ _ (by omega)).trans (h b hb).2.2.1, (va_up_ne _ _ (by omega)).trans (h b hb).2.2.2⟩
theorem kC.si {n a j : Nat} {v : Int32} {Γ Γ' : zG} {M M' : zM} (h : kC n Γ M Γ' M') (hn : n ≤ a) : kC n Γ M Γ' (zsi M' a j v) := fun b hb => ⟨(h b hb).1, (va_up_ne _ _ (by omega)).trans (h b hb).2.1, (h b hb).2.2.1, (h b hb).2.2.2⟩
theorem kC.sl {n a j : Nat} {v : Int64} {Γ Γ' : zG} {M M' : zM} (h : kC n Γ M Γ' M') (hn : n ≤ a) : kC n Γ M Γ' (zsl M' a j v) := fun b hb => ⟨(h b hb).1, (h b hb).2.1, (va_up_ne _ _ (by omega)).trans (h b hb).2.2.1, (h b hb).2.2.2⟩
theorem kC.sr {n a j v : Nat} {Γ Γ' : zG} {M M' : zM} (h : kC n Γ M Γ' M') (hn : n ≤ a) : kC n Γ M Γ' (zsr M' a j v) := fun b hb => ⟨(h b hb).1, (h b hb).2.1, (h b hb).2.2.1, (va_up_ne _ _ (by omega)).trans (h b hb).2.2.2⟩
theorem pRs.up {Γ Γ' : zG} {Q Q' : Nat → Nat → Nat} {r : Nat} (h : pRs Γ Q r) (h9 : ∀ b, r ≤ b → b ≤ r + 1 → Γ' b = Γ b) (hp : Q' r = Q r) : pRs Γ' Q' r := by
  unfold pRs at h ⊢; rw [h9 _ (by omega) (by omega), h9 _ (by omega) (by omega), hp]; exact h
theorem pAs.up {Γ Γ' : zG} {Q Q' : Nat → Nat → Nat} {r : Nat} (h : pAs Γ Q r) (h9 : ∀ b, r ≤ b → b ≤ r + 1 → Γ' b = Γ b) (hp : Q' r = Q r) : pAs Γ' Q' r := by
  unfold pAs at h ⊢; rw [h9 _ (by omega) (by omega), h9 _ (by omega) (by omega), hp]; exact h
theorem pEs.up {Γ Γ' : zG} {Q Q' : Nat → Nat → Nat} {r : Nat} (h : pEs Γ Q r) (h9 : ∀ b, r ≤ b → b ≤ r + 2 → Γ' b = Γ b) (hp : Q' r = Q r) : pEs Γ' Q' r := by
  unfold pEs at h ⊢; rw [h9 _ (by omega) (by omega), h9 _ (by omega) (by omega), h9 _ (by omega) (by omega), hp]; exact h
theorem pDs.up {Γ Γ' : zG} {Q Q' : Nat → Nat → Nat} {r : Nat} (h : pDs Γ Q r) (h9 : ∀ b, r ≤ b → b ≤ r + 2 → Γ' b = Γ b) (hp : Q' r = Q r) : pDs Γ' Q' r := by
  unfold pDs at h ⊢; rw [h9 _ (by omega) (by omega), h9 _ (by omega) (by omega), h9 _ (by omega) (by omega), hp]; exact h
theorem pRrS.up {Γ Γ' : zG} {Q Q' : Nat → Nat → Nat} {r N : Nat} (h : pRrS Γ Q r N) (h9 : ∀ b, r ≤ b → b < r + 2 + 4 * N → Γ' b = Γ b ∧ Q' b = Q b) : pRrS Γ' Q' r N := by
  obtain ⟨h1, h2, h3, h4⟩ := h
  refine ⟨((h9 _ (by omega) (by omega)).1).trans h1, ((h9 _ (by omega) (by omega)).1).trans h2, by rw [(h9 _ (by omega) (by omega)).2]; exact h3, fun i hi => ?_⟩
  obtain ⟨g1, g2⟩ := h4 i hi
  refine ⟨by rw [(h9 _ (by omega) (by omega)).2]; exact g1, ?_⟩
  unfold pSh at g2 ⊢
  rw [(h9 _ (by omega) (by omega)).1, (h9 _ (by omega) (by omega)).1, (h9 _ (by omega) (by omega)).1, (h9 _ (by omega) (by omega)).1, (h9 _ (by omega) (by omega)).2]
  exact g2
/-- the pieces of a new SlicedReads -/
def sT (x s : Nat) (Γ : zG) (M : zM) : Prop := match s with
  | 0 => zr M x 0 = x + 1 ∧ pRs Γ M.2.2 (x + 1) ∧ zi M (x + 1) 1 = nI 0
  | 1 => zr M x 1 = x + 3 ∧ pRrS Γ M.2.2 (x + 3) 25 ∧ zi M (x + 3) 1 = nI 0
  | 2 => zi M x 2 = nI 0
  | 3 => zr M x 3 = x + 105 ∧ Γ (x + 105) = some (3, 24)
  | 4 => zr M x 4 = x + 106 ∧ pRrS Γ M.2.2 (x + 106) 3 ∧ zi M (x + 106) 1 = nI 0
  | 5 => zr M x 5 = x + 120 ∧ pRrS Γ M.2.2 (x + 120) 3
  | 6 => zr M x 6 = x + 134 ∧ pAs Γ M.2.2 (x + 134) ∧ zi M (x + 134) 1 = nI 0
  | 7 => zr M x 7 = x + 136 ∧ pEs Γ M.2.2 (x + 136)
  | _ => zr M x 8 = x + 139 ∧ pDs Γ M.2.2 (x + 139)
def oN9 (s : Nat) : Nat := match s with
  | 0 => 3
  | 1 => 105
  | 2 => 1
  | 3 => 106
  | 4 => 120
  | 5 => 134
  | 6 => 136
  | 7 => 139
  | _ => 142
def oJ9 (s : Nat) : Nat := match s with
  | 0 => 0
  | 1 => 1
  | 2 => 99
  | 3 => 3
  | 4 => 4
  | 5 => 5
  | 6 => 6
  | 7 => 7
  | _ => 8
theorem sT.cg {x s : Nat} {Γ Γ' : zG} {M M' : zM} (h : sT x s Γ M) (hb : ∀ b, x < b → b < x + oN9 s → Γ' b = Γ b ∧ (b ≠ x + 105 → M'.1 b = M.1 b ∧ M'.2.2 b = M.2.2 b)) (hj : M'.2.2 x (oJ9 s) = M.2.2 x (oJ9 s)) (hi : s = 2 → M'.1 x 2 = M.1 x 2) : sT x s Γ' M' := by
  have ei : ∀ b j, x < b → b < x + oN9 s → b ≠ x + 105 → zi M' b j = zi M b j := fun b j h1 h2 h3 => by
    show M'.1 b j = M.1 b j
    rw [((hb b h1 h2).2 h3).1]
  match s, h, hb, hj, hi, ei with
  | 0, h, hb, hj, hi, ei => exact ⟨hj.trans h.1, h.2.1.up (fun b h1 h2 => (hb b (by omega) (by simp only [oN9]; omega)).1) ((hb _ (by omega) (by simp only [oN9]; omega)).2 (by omega)).2, (ei _ _ (by omega) (by simp only [oN9]; omega) (by omega)).trans h.2.2⟩
  | 1, h, hb, hj, hi, ei => exact ⟨hj.trans h.1, h.2.1.up (fun b h1 h2 => ⟨(hb b (by omega) (by simp only [oN9]; omega)).1, ((hb b (by omega) (by simp only [oN9]; omega)).2 (by omega)).2⟩), (ei _ _ (by omega) (by simp only [oN9]; omega) (by omega)).trans h.2.2⟩
  | 2, h, hb, hj, hi, ei => exact (hi rfl).trans h
  | 3, h, hb, hj, hi, ei => exact ⟨hj.trans h.1, ((hb _ (by omega) (by simp only [oN9]; omega)).1).trans h.2⟩
  | 4, h, hb, hj, hi, ei => exact ⟨hj.trans h.1, h.2.1.up (fun b h1 h2 => ⟨(hb b (by omega) (by simp only [oN9]; omega)).1, ((hb b (by omega) (by simp only [oN9]; omega)).2 (by omega)).2⟩), (ei _ _ (by omega) (by simp only [oN9]; omega) (by omega)).trans h.2.2⟩
  | 5, h, hb, hj, hi, ei => exact ⟨hj.trans h.1, h.2.up (fun b h1 h2 => ⟨(hb b (by omega) (by simp only [oN9]; omega)).1, ((hb b (by omega) (by simp only [oN9]; omega)).2 (by omega)).2⟩)⟩
  | 6, h, hb, hj, hi, ei => exact ⟨hj.trans h.1, h.2.1.up (fun b h1 h2 => (hb b (by omega) (by simp only [oN9]; omega)).1) ((hb _ (by omega) (by simp only [oN9]; omega)).2 (by omega)).2, (ei _ _ (by omega) (by simp only [oN9]; omega) (by omega)).trans h.2.2⟩
  | 7, h, hb, hj, hi, ei => exact ⟨hj.trans h.1, h.2.up (fun b h1 h2 => (hb b (by omega) (by simp only [oN9]; omega)).1) ((hb _ (by omega) (by simp only [oN9]; omega)).2 (by omega)).2⟩
  | s + 8, h, hb, hj, hi, ei => exact ⟨hj.trans h.1, h.2.up (fun b h1 h2 => (hb b (by omega) (by simp only [oN9]; omega)).1) ((hb _ (by omega) (by simp only [oN9]; omega)).2 (by omega)).2⟩
def sQ (x : Nat) (Γ : zG) (M : zM) (i : Nat) (Γ' : zG) (M' : zM) : Prop := kC x Γ M Γ' M' ∧ Γ' x = some (0, 6) ∧ ∀ s, s < i → sT x s Γ' M'
theorem sQ.step {x : Nat} {Γ Γ' Γ'' : zG} {M M' M'' : zM} {i : Nat} (h : sQ x Γ M i Γ' M') (o J v : Nat) (hk : kC (x + o) Γ' M' Γ'' M'') (ho : 0 < o) (hd : ∀ s, s < i → oN9 s ≤ o ∧ oJ9 s ≠ J) (hn : sT x i Γ'' (zsr M'' x J v)) : sQ x Γ M (i + 1) Γ'' (zsr M'' x J v) := by
  refine ⟨h.1.tr ((hk.le (by omega)).sr (Nat.le_refl _)), (hk x (by omega)).1.trans h.2.1, fun s hs => ?_⟩
  by_cases e : s = i
  · subst e; exact hn
  · have hd := hd s (by omega)
    refine (h.2.2 s (by omega)).cg (fun b h1 h2 => ?_) ?_ (fun _ => ?_)
    · have := hk b (by omega)
      exact ⟨this.1, fun _ => ⟨this.2.1, (va_up_ne _ _ (by omega)).trans this.2.2.2⟩⟩
    · exact (zr_k (M := M'') (a := x) (k := J) (v := v) hd.2).trans (by show M''.2.2 x _ = _; rw [(hk x (by omega)).2.2.2])
    · show M''.1 x 2 = M'.1 x 2
      rw [(hk x (by omega)).2.1]
theorem sQ.put {x : Nat} {Γ Γ' : zG} {M M' : zM} (h : sQ x Γ M 2 Γ' M') : sQ x Γ M 3 Γ' (zsi M' x 2 (nI 0)) := by
  refine ⟨h.1.si (Nat.le_refl _), h.2.1, fun s hs => ?_⟩
  by_cases e : s = 2
  · subst e; exact zi_s _ _ _ _
  · exact (h.2.2 s (by omega)).cg (fun b h1 h2 => ⟨rfl, fun _ => ⟨zi_b (by omega), rfl⟩⟩) rfl (fun q => absurd q e)
theorem sQ.srt {x : Nat} {Γ Γ' : zG} {M M' : zM} {i j v : Nat} (h : sQ x Γ M i Γ' M') : sQ x Γ M i Γ' (zsr M' (x + 105) j v) := by
  refine ⟨h.1.sr (by omega), h.2.1, fun s hs => (h.2.2 s hs).cg (fun b h1 h2 => ⟨rfl, fun e => ⟨rfl, va_up_ne _ _ e⟩⟩) ?_ (fun _ => rfl)⟩
  show va_up M'.2.2 (x + 105) _ x _ = _
  rw [va_up_ne _ _ (by omega)]
set_option maxHeartbeats 4000000 in
set_option maxRecDepth 100000 in
/-- new SlicedReads(), the object just before -/
theorem c_Sr_init (l : Launch) (E : zE) (Γ : zG) (M : zM) (x : Nat) (hg : Γ x = some (0, 6)) (hx0 : 0 < x) (fs hs : Nat → mRd) (ur : mRd) : zCt l E Y_Sr_init 3 (141, 4528) [.ref x] Γ (x + 1) M (zPc (fun Γ' n' M' => n' = x + 142 ∧ kC x Γ M Γ' M' ∧ pI Γ' M' x (x + 106) (x + 120) 0 0 0 0 0 (fun _ => 0) (fun _ => 0) fs hs ur)) := by
  refine zCt.of [(0, .ref x)] (by decide) (Nat.le_of_ble_eq_true rfl) rfl (fun f hfl hx hQ => ?_)
  refine g_aload_n (q := 1) hx d_Sr_init_0 rfl rfl ?_
  refine g_objInit (q := 4) hx d_Sr_init_1 rfl (by decide) oil_Sr_3 oi_im oi_co (Nat.le_of_ble_eq_true rfl) ?_
  have s0 : sQ x Γ M 0 Γ M := ⟨kC.rf, hg, fun s hs => absurd hs (Nat.not_lt_zero _)⟩
  refine z_gen (Q := sQ x Γ M 0) (x + 1) (0, 0) rfl rfl s0 (fun Γ0 M0 s0 => ?_)
  refine g_aload_n (q := 5) hx d_Sr_init_4 rfl rfl ?_
  refine g_new (q := 8) (c := 5) hx d_Sr_init_5 rfl rfl nl_Sr_9 ins_5 ini_5 (by decide) (by decide) (fun hlo5 => ?_)
  refine g_dup (q := 9) hx d_Sr_init_8 rfl rfl ?_
  refine g_cc (q := 12) (zrunI hx d_Sr_init_9 lk_Sr_11 rfl rfl (Nat.le_of_ble_eq_true rfl) (by decide) (by decide) (by decide) (c_Re_init _ E _ (x + 2) _ (x + 1) (if_pos rfl) (by omega))) rfl (fun Γ9 n9 M9 p9 => ?_)
  have hk9 : kC (x + 1) Γ0 M0 Γ9 M9 := by
    obtain ⟨e1, e2, e3⟩ := p9
    rw [e1, e3]
    exact (((((kC.rf.up (by omega)).up (by omega)).push (by omega)).push (by omega)).sr (by omega)).si (by omega)
  have hg9 : Γ9 x = some (0, 6) := (hk9 x (by omega)).1.trans s0.2.1
  have hn9 : n9 = x + 3 := p9.2.1
  refine g_putFo (q := 15) hx d_Sr_init_12 rfl fl_Sr_12 fi_6_0 rfl hg9 (by omega) (by decide +kernel) ?_
  have t9 : sT x 0 Γ9 (zsr M9 x 0 (x + 1)) := by
    obtain ⟨e1, e2, e3⟩ := p9
    rw [e1, e3]
    refine ⟨zr_s _ _ _ _, ⟨?_, if_pos rfl, ?_, by omega⟩, ?_⟩
    · exact (va_up_ne _ _ (by omega)).trans (if_pos rfl)
    · show zr (zsr _ x _ _) (x + 1) 0 = _
      rw [zr_si, if_neg (fun q => by omega)]
      exact zr_s _ _ _ _
    · exact zi_s _ _ _ _
  refine z_gen (Q := sQ x Γ M 1) (x + 3) (2, 162) hn9 rfl (s0.step 1 0 (x + 1) hk9 (by decide) (by decide) t9) (fun Γ1 M1 s1 => ?_)
  clear hk9 hg9 hn9 t9 p9
  refine g_aload_n (q := 16) hx d_Sr_init_15 rfl rfl ?_
  refine g_new (q := 19) (c := 4) hx d_Sr_init_16 rfl rfl nl_Sr_16 ins_4 ini_4 (by decide) (by decide) (fun hlo16 => ?_)
  refine g_dup (q := 20) hx d_Sr_init_19 rfl rfl ?_
  refine g_bipush (q := 22) (v := nI 25) hx d_Sr_init_20 rfl (by decide) ?_
  refine g_cc (q := 25) (zrunI hx d_Sr_init_22 lk_Sr_18 rfl rfl (Nat.le_of_ble_eq_true rfl) (by decide) (by decide) (by decide) (c_Rr_init _ E _ _ (x + 3) 25 (if_pos rfl) (by omega) (by decide))) rfl (fun Γ9 n9 M9 p9 => ?_)
  have hk9 : kC (x + 3) Γ1 M1 Γ9 M9 := by
    obtain ⟨e1, e2, e3, e4, e5⟩ := p9
    exact fun b hb => ⟨(e2 b (by omega)).trans (va_up_ne _ _ (by omega)), (e5 b hb).1.trans (va_up_ne _ _ (by omega)), (e5 b hb).2.1.trans (va_up_ne _ _ (by omega)), (e5 b hb).2.2.trans (va_up_ne _ _ (by omega))⟩
  have hg9 : Γ9 x = some (0, 6) := (hk9 x (by omega)).1.trans s1.2.1
  have hn9 : n9 = x + 105 := p9.1
  refine g_putFo (q := 28) hx d_Sr_init_25 rfl fl_Sr_21 fi_6_1 rfl hg9 (by omega) (by decide +kernel) ?_
  have t9 : sT x 1 Γ9 (zsr M9 x 1 (x + 3)) := by
    obtain ⟨e1, e2, e3, e4, e5⟩ := p9
    refine ⟨zr_s _ _ _ _, e3.up (fun b h1 h2 => ⟨rfl, va_up_ne _ _ (by omega)⟩), e4⟩
  refine z_gen (Q := sQ x Γ M 2) (x + 105) (104, 1464) hn9 rfl (s1.step 3 1 (x + 3) hk9 (by decide) (by decide) t9) (fun Γ2 M2 s2 => ?_)
  clear hk9 hg9 hn9 t9 p9
  refine g_aload_n (q := 29) hx d_Sr_init_28 rfl rfl ?_
  refine g_iconst (q := 30) (v := nI 0) hx d_Sr_init_29 rfl (by decide) ?_
  refine g_putz (q := 33) hx d_Sr_init_30 rfl fl_Sr_25 nf_6_2 s2.2.1 (by decide) ?_
  refine z_gen (Q := sQ x Γ M 3) (x + 105) (104, 1464) rfl rfl s2.put (fun Γ3 M3 s3 => ?_)
  refine g_aload_n (q := 34) hx d_Sr_init_33 rfl rfl ?_
  refine g_bipush (q := 36) (v := nI 24) hx d_Sr_init_34 rfl (by decide) ?_
  refine g_newr (q := 39) hx d_Sr_init_36 rfl rfl (by decide) nl_Sr_29 (by decide) (by decide) (fun hlo36 => ?_)
  have hk9 : kC (x + 105) Γ3 M3 (va_up Γ3 (x + 105) (some (3, 24))) (zpush M3 (x + 105)) := (kC.rf.up (by omega)).push (by omega)
  refine g_putFa (q := 42) hx d_Sr_init_39 rfl fl_Sr_31 fi_6_3 rfl ((hk9 x (by omega)).1.trans s3.2.1) (by omega) (by decide +kernel) ?_
  refine z_gen (Q := sQ x Γ M 4) (x + 106) (105, 1488) rfl rfl (s3.step 105 3 (x + 105) hk9 (by decide) (by decide) ⟨zr_s _ _ _ _, if_pos rfl⟩) (fun Γ4 M4 s4 => ?_)
  clear hk9
  refine g_aload_n (q := 43) hx d_Sr_init_42 rfl rfl ?_
  refine g_new (q := 46) (c := 4) hx d_Sr_init_43 rfl rfl nl_Sr_16 ins_4 ini_4 (by decide) (by decide) (fun hlo43 => ?_)
  refine g_dup (q := 47) hx d_Sr_init_46 rfl rfl ?_
  refine g_iconst (q := 48) (v := nI 3) hx d_Sr_init_47 rfl (by decide) ?_
  refine g_cc (q := 51) (zrunI hx d_Sr_init_48 lk_Sr_18 rfl rfl (Nat.le_of_ble_eq_true rfl) (by decide) (by decide) (by decide) (c_Rr_init _ E _ _ (x + 106) 3 (if_pos rfl) (by omega) (by decide))) rfl (fun Γ9 n9 M9 p9 => ?_)
  have hk9 : kC (x + 106) Γ4 M4 Γ9 M9 := by
    obtain ⟨e1, e2, e3, e4, e5⟩ := p9
    exact fun b hb => ⟨(e2 b (by omega)).trans (va_up_ne _ _ (by omega)), (e5 b hb).1.trans (va_up_ne _ _ (by omega)), (e5 b hb).2.1.trans (va_up_ne _ _ (by omega)), (e5 b hb).2.2.trans (va_up_ne _ _ (by omega))⟩
  have hg9 : Γ9 x = some (0, 6) := (hk9 x (by omega)).1.trans s4.2.1
  have hn9 : n9 = x + 120 := p9.1
  refine g_puto (q := 54) hx d_Sr_init_51 rfl fl_Sr_35 nf_6_4 hg9 (by omega) ?_
  have t9 : sT x 4 Γ9 (zsr M9 x 4 (x + 106)) := by
    obtain ⟨e1, e2, e3, e4, e5⟩ := p9
    refine ⟨zr_s _ _ _ _, e3.up (fun b h1 h2 => ⟨rfl, va_up_ne _ _ (by omega)⟩), e4⟩
  refine z_gen (Q := sQ x Γ M 5) (x + 120) (119, 1646) hn9 rfl (s4.step 106 4 (x + 106) hk9 (by decide) (by decide) t9) (fun Γ5 M5 s5 => ?_)
  clear hk9 hg9 hn9 t9 p9
  refine g_aload_n (q := 55) hx d_Sr_init_54 rfl rfl ?_
  refine g_new (q := 58) (c := 4) hx d_Sr_init_55 rfl rfl nl_Sr_16 ins_4 ini_4 (by decide) (by decide) (fun hlo55 => ?_)
  refine g_dup (q := 59) hx d_Sr_init_58 rfl rfl ?_
  refine g_iconst (q := 60) (v := nI 3) hx d_Sr_init_59 rfl (by decide) ?_
  refine g_cc (q := 63) (zrunI hx d_Sr_init_60 lk_Sr_18 rfl rfl (Nat.le_of_ble_eq_true rfl) (by decide) (by decide) (by decide) (c_Rr_init _ E _ _ (x + 120) 3 (if_pos rfl) (by omega) (by decide))) rfl (fun Γ9 n9 M9 p9 => ?_)
  have hk9 : kC (x + 120) Γ5 M5 Γ9 M9 := by
    obtain ⟨e1, e2, e3, e4, e5⟩ := p9
    exact fun b hb => ⟨(e2 b (by omega)).trans (va_up_ne _ _ (by omega)), (e5 b hb).1.trans (va_up_ne _ _ (by omega)), (e5 b hb).2.1.trans (va_up_ne _ _ (by omega)), (e5 b hb).2.2.trans (va_up_ne _ _ (by omega))⟩
  have hg9 : Γ9 x = some (0, 6) := (hk9 x (by omega)).1.trans s5.2.1
  have hn9 : n9 = x + 134 := p9.1
  refine g_puto (q := 66) hx d_Sr_init_63 rfl fl_Sr_38 nf_6_5 hg9 (by omega) ?_
  have t9 : sT x 5 Γ9 (zsr M9 x 5 (x + 120)) := by
    obtain ⟨e1, e2, e3, e4, e5⟩ := p9
    refine ⟨zr_s _ _ _ _, e3.up (fun b h1 h2 => ⟨rfl, va_up_ne _ _ (by omega)⟩)⟩
  refine z_gen (Q := sQ x Γ M 6) (x + 134) (133, 1804) hn9 rfl (s5.step 120 5 (x + 120) hk9 (by decide) (by decide) t9) (fun Γ6 M6 s6 => ?_)
  clear hk9 hg9 hn9 t9 p9
  refine g_aload_n (q := 67) hx d_Sr_init_66 rfl rfl ?_
  refine g_new (q := 70) (c := 0) hx d_Sr_init_67 rfl rfl nl_Sr_41 ins_0 ini_0 (by decide) (by decide) (fun hlo67 => ?_)
  refine g_dup (q := 71) hx d_Sr_init_70 rfl rfl ?_
  refine g_cc (q := 74) (zrunI hx d_Sr_init_71 lk_Sr_43 rfl rfl (Nat.le_of_ble_eq_true rfl) (by decide) (by decide) (by decide) (c_Ar_init _ E _ (x + 135) _ (x + 134) (if_pos rfl) (by omega))) rfl (fun Γ9 n9 M9 p9 => ?_)
  have hk9 : kC (x + 134) Γ6 M6 Γ9 M9 := by
    obtain ⟨e1, e2, e3⟩ := p9
    rw [e1, e3]
    exact (((((kC.rf.up (by omega)).up (by omega)).push (by omega)).push (by omega)).sr (by omega)).si (by omega)
  have hg9 : Γ9 x = some (0, 6) := (hk9 x (by omega)).1.trans s6.2.1
  have hn9 : n9 = x + 136 := p9.2.1
  refine g_putFo (q := 77) hx d_Sr_init_74 rfl fl_Sr_44 fi_6_6 rfl hg9 (by omega) (by decide +kernel) ?_
  have t9 : sT x 6 Γ9 (zsr M9 x 6 (x + 134)) := by
    obtain ⟨e1, e2, e3⟩ := p9
    rw [e1, e3]
    refine ⟨zr_s _ _ _ _, ⟨?_, if_pos rfl, ?_, by omega⟩, ?_⟩
    · exact (va_up_ne _ _ (by omega)).trans (if_pos rfl)
    · show zr (zsr _ x _ _) (x + 134) 0 = _
      rw [zr_si, if_neg (fun q => by omega)]
      exact zr_s _ _ _ _
    · exact zi_s _ _ _ _
  refine z_gen (Q := sQ x Γ M 7) (x + 136) (135, 3886) hn9 rfl (s6.step 134 6 (x + 134) hk9 (by decide) (by decide) t9) (fun Γ7 M7 s7 => ?_)
  clear hk9 hg9 hn9 t9 p9
  refine g_aload_n (q := 78) hx d_Sr_init_77 rfl rfl ?_
  refine g_new (q := 81) (c := 2) hx d_Sr_init_78 rfl rfl nl_Sr_48 ins_2 ini_2 (by decide) (by decide) (fun hlo78 => ?_)
  refine g_dup (q := 82) hx d_Sr_init_81 rfl rfl ?_
  refine g_cc (q := 85) (zrunI hx d_Sr_init_82 lk_Sr_50 rfl rfl (Nat.le_of_ble_eq_true rfl) (by decide) (by decide) (by decide) (c_En_init _ E _ (x + 137) _ (x + 136) (if_pos rfl) (by omega))) rfl (fun Γ9 n9 M9 p9 => ?_)
  have hk9 : kC (x + 136) Γ7 M7 Γ9 M9 := by
    obtain ⟨e1, e2, e3⟩ := p9
    rw [e1, e3]
    exact ((((((((((kC.rf.up (by omega)).up (by omega)).up (by omega)).push (by omega)).push (by omega)).sr (by omega)).sl (by omega)).push (by omega)).sr (by omega)).si (by omega)).sl (by omega)
  have hg9 : Γ9 x = some (0, 6) := (hk9 x (by omega)).1.trans s7.2.1
  have hn9 : n9 = x + 139 := p9.2.1
  refine g_putFo (q := 88) hx d_Sr_init_85 rfl fl_Sr_51 fi_6_7 rfl hg9 (by omega) (by decide +kernel) ?_
  have t9 : sT x 7 Γ9 (zsr M9 x 7 (x + 136)) := by
    obtain ⟨e1, e2, e3⟩ := p9
    rw [e1, e3]
    refine ⟨zr_s _ _ _ _, ⟨?_, ?_, if_pos rfl, ?_, ?_, by omega⟩⟩
    · exact (va_up_ne _ _ (by omega)).trans ((va_up_ne _ _ (by omega)).trans (if_pos rfl))
    · exact (va_up_ne _ _ (by omega)).trans (if_pos rfl)
    · show zr (zsr _ x _ _) (x + 136) 0 = _
      rw [zr_si, if_neg (fun q => by omega)]
      show zr (zsr (zpush (zsl (zsr _ _ 0 _) _ _ _) _) _ 2 _) _ 0 = _
      rw [zr_k (by decide)]
      show va_up (zsr _ _ 0 _).2.2 _ _ _ _ = _
      rw [va_up_ne _ _ (by omega)]
      exact zr_s _ _ _ _
    · show zr (zsr _ x _ _) (x + 136) 2 = _
      rw [zr_si, if_neg (fun q => by omega)]
      exact zr_s _ _ _ _
  refine z_gen (Q := sQ x Γ M 8) (x + 139) (138, 4209) hn9 rfl (s7.step 136 7 (x + 136) hk9 (by decide) (by decide) t9) (fun Γ8 M8 s8 => ?_)
  clear hk9 hg9 hn9 t9 p9
  refine g_aload_n (q := 89) hx d_Sr_init_88 rfl rfl ?_
  refine g_new (q := 92) (c := 1) hx d_Sr_init_89 rfl rfl nl_Sr_55 ins_1 ini_1 (by decide) (by decide) (fun hlo89 => ?_)
  refine g_dup (q := 93) hx d_Sr_init_92 rfl rfl ?_
  refine g_cc (q := 96) (zrunI hx d_Sr_init_93 lk_Sr_57 rfl rfl (Nat.le_of_ble_eq_true rfl) (by decide) (by decide) (by decide) (c_De_init _ E _ (x + 140) _ (x + 139) (if_pos rfl) (by omega))) rfl (fun Γ9 n9 M9 p9 => ?_)
  have hk9 : kC (x + 139) Γ8 M8 Γ9 M9 := by
    obtain ⟨e1, e2, e3⟩ := p9
    rw [e1, e3]
    exact (((((((((((kC.rf.up (by omega)).up (by omega)).up (by omega)).push (by omega)).push (by omega)).sr (by omega)).sl (by omega)).push (by omega)).sr (by omega)).si (by omega)).si (by omega)).sl (by omega)
  have hg9 : Γ9 x = some (0, 6) := (hk9 x (by omega)).1.trans s8.2.1
  have hn9 : n9 = x + 142 := p9.2.1
  refine g_putFo (q := 99) hx d_Sr_init_96 rfl fl_Sr_58 fi_6_8 rfl hg9 (by omega) (by decide +kernel) ?_
  have t9 : sT x 8 Γ9 (zsr M9 x 8 (x + 139)) := by
    obtain ⟨e1, e2, e3⟩ := p9
    rw [e1, e3]
    refine ⟨zr_s _ _ _ _, ⟨?_, ?_, if_pos rfl, ?_, ?_, by omega⟩⟩
    · exact (va_up_ne _ _ (by omega)).trans ((va_up_ne _ _ (by omega)).trans (if_pos rfl))
    · exact (va_up_ne _ _ (by omega)).trans (if_pos rfl)
    · show zr (zsr _ x _ _) (x + 139) 0 = _
      rw [zr_si, if_neg (fun q => by omega)]
      show zr (zsr (zpush (zsl (zsr _ _ 0 _) _ _ _) _) _ 2 _) _ 0 = _
      rw [zr_k (by decide)]
      show va_up (zsr _ _ 0 _).2.2 _ _ _ _ = _
      rw [va_up_ne _ _ (by omega)]
      exact zr_s _ _ _ _
    · show zr (zsr _ x _ _) (x + 139) 2 = _
      rw [zr_si, if_neg (fun q => by omega)]
      exact zr_s _ _ _ _
  refine z_gen (Q := sQ x Γ M 9) (x + 142) (141, 4528) hn9 rfl (s8.step 139 8 (x + 139) hk9 (by decide) (by decide) t9) (fun Γ9 M9 s9 => ?_)
  clear hk9 hg9 hn9 t9 p9
  refine g_iconst (q := 100) (v := nI 0) hx d_Sr_init_99 rfl (by decide) ?_
  refine g_istore_n (q := 101) (lc' := [(1, _), (0, _)]) hx d_Sr_init_100 rfl (by decide) rfl ?_
  have loop : ∀ (i : Nat) (M1 : zM), i ≤ 24 → sQ x Γ M 9 Γ9 M1 → zGo f E Γ9 (x + 142) (141, 4528) M1 101 [(1, .int (nI i)), (0, .ref x)] [] := by
    refine z_lp (fun i => 24 - i) _ ?_
    intro i M1 ih hi i1
    refine g_iload_n (q := 102) hx d_Sr_init_101 rfl rfl ?_
    refine g_bipush (q := 104) (v := nI 24) hx d_Sr_init_102 rfl (by decide) ?_
    refine g_icmp_ge (q := 107) (t := 128) hx d_Sr_init_104 rfl rfl (nI_leI (by omega) (by omega)) (fun h104 => ?_) (fun h104 => ?_)
    · refine g_vret hx d_Sr_init_128 rfl hQ ⟨by decide, by decide⟩ ⟨rfl, rfl, i1.1, ?_⟩
      have q0 := i1.2.2 0 (by decide)
      have q1 := i1.2.2 1 (by decide)
      have q2 := i1.2.2 2 (by decide)
      have q3 := i1.2.2 3 (by decide)
      have q4 := i1.2.2 4 (by decide)
      have q5 := i1.2.2 5 (by decide)
      have q6 := i1.2.2 6 (by decide)
      have q7 := i1.2.2 7 (by decide)
      have q8 := i1.2.2 8 (by decide)
      exact ⟨⟨⟨i1.2.1, hx0⟩, ⟨q0.1, q1.1, q3.1, q4.1, q5.1, q6.1, q7.1, q8.1⟩, Or.inl ⟨rfl, rfl⟩, q0.2.1, q1.2.1, q3.2, ⟨q4.2.1, q5.2⟩, q6.2.1, q7.2, q8.2⟩, ⟨q0.2.2, fun j hj => absurd hj (Nat.not_lt_zero _), Nat.zero_le _, fun _ => Nat.le_of_ble_eq_true rfl⟩, ⟨q1.2.2, Nat.zero_le _⟩, fun i hi => absurd hi (Nat.not_lt_zero _), ⟨q2, Nat.zero_le _⟩, fun hg => absurd hg (by decide), ⟨q4.2.2, Nat.zero_le _⟩, fun i hi => absurd hi (Nat.not_lt_zero _), ⟨q6.2.2, fun j hj => absurd hj (Nat.not_lt_zero _), Nat.zero_le _, fun _ => Nat.le_of_ble_eq_true rfl⟩⟩
    · refine g_aload_n (q := 108) hx d_Sr_init_107 rfl rfl ?_
      refine g_geta (q := 111) hx d_Sr_init_108 rfl fl_Sr_31 i1.2.1 (i1.2.2 3 (by decide)).1 (by first | exact Nat.succ_ne_zero _ | omega) ?_
      refine g_iload_n (q := 112) hx d_Sr_init_111 rfl rfl ?_
      refine g_aload_n (q := 113) hx d_Sr_init_112 rfl rfl ?_
      refine g_geto (q := 116) hx d_Sr_init_113 rfl fl_Sr_21 i1.2.1 (i1.2.2 1 (by decide)).1 (by first | exact Nat.succ_ne_zero _ | omega) ?_
      refine g_geta (q := 119) hx d_Sr_init_116 rfl fl_Sr_62 (i1.2.2 1 (by decide)).2.1.1 (i1.2.2 1 (by decide)).2.1.2.2.1 (by first | exact Nat.succ_ne_zero _ | omega) ?_
      refine g_iload_n (q := 120) hx d_Sr_init_119 rfl rfl ?_
      refine g_aald (q := 121) hx d_Sr_init_120 rfl (i1.2.2 1 (by decide)).2.1.2.1 rfl (by omega) (by decide) ((i1.2.2 1 (by decide)).2.1.2.2.2 i (by omega)).1 (by omega) ?_
      refine g_aast (q := 122) hx d_Sr_init_121 rfl (i1.2.2 3 (by decide)).2 rfl (by omega) (by decide) (((i1.2.2 1 (by decide)).2.1.2.2.2 i (by omega)).2.1.1) (by omega) ?_
      refine g_iinc (q := 125) (lc' := [(1, _), (0, _)]) hx d_Sr_init_122 rfl rfl (z_inc _) (by decide) rfl ?_
      refine g_goto (q := 101) hx d_Sr_init_125 rfl ?_
      exact ih (i + 1) _ (by omega) (by omega) i1.srt
  exact loop 0 M9 (by omega) s9
def uF (s : Nat) : Nat := match s with
  | 1 => 2
  | 2 => 6
  | 3 => 7
  | 4 => 8
  | 5 => 9
  | 6 => 10
  | 7 => 11
  | 8 => 13
  | 9 => 16
  | 10 => 18
  | 11 => 23
  | 12 => 24
  | _ => 0
def uN (s : Nat) : Nat := match s with
  | 1 => 160
  | 2 => 31
  | 3 => 31
  | 4 => 31
  | 5 => 31
  | 6 => 372
  | 7 => 372
  | 8 => 6000
  | 9 => 59
  | 10 => 600
  | 11 => 700
  | 12 => 24
  | _ => 0
def uQ (m : Nat) (Γ : zG) (M : zM) (i : Nat) (Γ' : zG) (M' : zM) : Prop := kC m Γ M Γ' M' ∧ Γ' m = some (0, 7) ∧ M'.1 m = M.1 m ∧ ∀ s, 1 ≤ s → s ≤ i → Γ' (m + s) = some (1, uN s) ∧ M'.2.2 m (uF s) = m + s
theorem uQ.step {m : Nat} {Γ Γ' : zG} {M M' : zM} {i : Nat} (h : uQ m Γ M i Γ' M') (hd : ∀ s, s ≤ i → uF s ≠ uF (i + 1)) : uQ m Γ M (i + 1) (va_up Γ' (m + i + 1) (some (1, uN (i + 1)))) (zsr (zpush M' (m + i + 1)) m (uF (i + 1)) (m + i + 1)) := by
  refine ⟨((h.1.up (by omega)).push (by omega)).sr (Nat.le_refl _), (va_up_ne _ _ (by omega)).trans h.2.1, (va_up_ne _ _ (by omega)).trans h.2.2.1, fun s h1 hs => ?_⟩
  by_cases e : s = i + 1
  · subst e; exact ⟨if_pos rfl, zr_s _ _ _ _⟩
  · obtain ⟨g1, g2⟩ := h.2.2.2 s h1 (by omega)
    refine ⟨(va_up_ne _ _ (by omega)).trans g1, (zr_k (M := zpush M' (m + i + 1)) (a := m) (hd s (by omega))).trans ?_⟩
    show va_up M'.2.2 _ _ m _ = _
    rw [va_up_ne _ _ (by omega)]; exact g2
set_option maxHeartbeats 4000000 in
set_option maxRecDepth 100000 in
/-- new SlicedReadsModel(), the object just before -/
theorem c_Mo_init (l : Launch) (E : zE) (Γ : zG) (M : zM) (m : Nat) (hg : Γ m = some (0, 7)) (hm0 : 0 < m) (hz : ∀ j, zi M m j = nI 0) (fs hs : Nat → mRd) (ur : mRd) : zCt l E Y_Mo_init 1 (12, 8411) [.ref m] Γ (m + 1) M (zPc (fun Γ' n' M' => n' = m + 13 ∧ kC m Γ M Γ' M' ∧ qX Γ' M'.2.2 m ∧ qI M' m 0 0 0 0 0 (fun _ => 0) (fun _ => 0) fs hs ur)) := by
  refine zCt.of [(0, .ref m)] (by decide) (Nat.le_of_ble_eq_true rfl) rfl (fun f hfl hx hQ => ?_)
  refine g_aload_n (q := 1) hx d_Mo_init_0 rfl rfl ?_
  refine g_objInit (q := 4) hx d_Mo_init_1 rfl (by decide) oil_Mo_1 oi_im oi_co (Nat.le_of_ble_eq_true rfl) ?_
  have s0 : uQ m Γ M 0 Γ M := ⟨kC.rf, hg, rfl, fun s h1 hs => by omega⟩
  refine z_gen (Q := uQ m Γ M 0) (m + 1) (0, 0) rfl rfl s0 (fun Γ0 M0 s0 => ?_)
  refine g_aload_n (q := 5) hx d_Mo_init_4 rfl rfl ?_
  refine g_sipush (q := 8) (v := nI 160) hx d_Mo_init_5 rfl (by decide) ?_
  refine g_newi (q := 10) hx d_Mo_init_8 rfl rfl (by decide) ac_int (by decide) (by decide) (fun hlo0 => ?_)
  refine g_putFa (q := 13) hx d_Mo_init_10 rfl fl_Mo_7 fi_7_2 rfl ((va_up_ne _ _ (by omega)).trans s0.2.1) (by omega) (by decide +kernel) ?_
  refine z_gen (Q := uQ m Γ M 1) (m + 2) (1, 160) rfl rfl (s0.step (by decide)) (fun Γ1 M1 s1 => ?_)
  refine g_aload_n (q := 14) hx d_Mo_init_13 rfl rfl ?_
  refine g_bipush (q := 16) (v := nI 31) hx d_Mo_init_14 rfl (by decide) ?_
  refine g_newi (q := 18) hx d_Mo_init_16 rfl rfl (by decide) ac_int (by decide) (by decide) (fun hlo1 => ?_)
  refine g_putFa (q := 21) hx d_Mo_init_18 rfl fl_Mo_13 fi_7_6 rfl ((va_up_ne _ _ (by omega)).trans s1.2.1) (by omega) (by decide +kernel) ?_
  refine z_gen (Q := uQ m Γ M 2) (m + 3) (2, 191) rfl rfl (s1.step (by decide)) (fun Γ2 M2 s2 => ?_)
  refine g_aload_n (q := 22) hx d_Mo_init_21 rfl rfl ?_
  refine g_bipush (q := 24) (v := nI 31) hx d_Mo_init_22 rfl (by decide) ?_
  refine g_newi (q := 26) hx d_Mo_init_24 rfl rfl (by decide) ac_int (by decide) (by decide) (fun hlo2 => ?_)
  refine g_putFa (q := 29) hx d_Mo_init_26 rfl fl_Mo_16 fi_7_7 rfl ((va_up_ne _ _ (by omega)).trans s2.2.1) (by omega) (by decide +kernel) ?_
  refine z_gen (Q := uQ m Γ M 3) (m + 4) (3, 222) rfl rfl (s2.step (by decide)) (fun Γ3 M3 s3 => ?_)
  refine g_aload_n (q := 30) hx d_Mo_init_29 rfl rfl ?_
  refine g_bipush (q := 32) (v := nI 31) hx d_Mo_init_30 rfl (by decide) ?_
  refine g_newi (q := 34) hx d_Mo_init_32 rfl rfl (by decide) ac_int (by decide) (by decide) (fun hlo3 => ?_)
  refine g_putFa (q := 37) hx d_Mo_init_34 rfl fl_Mo_19 fi_7_8 rfl ((va_up_ne _ _ (by omega)).trans s3.2.1) (by omega) (by decide +kernel) ?_
  refine z_gen (Q := uQ m Γ M 4) (m + 5) (4, 253) rfl rfl (s3.step (by decide)) (fun Γ4 M4 s4 => ?_)
  refine g_aload_n (q := 38) hx d_Mo_init_37 rfl rfl ?_
  refine g_bipush (q := 40) (v := nI 31) hx d_Mo_init_38 rfl (by decide) ?_
  refine g_newi (q := 42) hx d_Mo_init_40 rfl rfl (by decide) ac_int (by decide) (by decide) (fun hlo4 => ?_)
  refine g_putFa (q := 45) hx d_Mo_init_42 rfl fl_Mo_22 fi_7_9 rfl ((va_up_ne _ _ (by omega)).trans s4.2.1) (by omega) (by decide +kernel) ?_
  refine z_gen (Q := uQ m Γ M 5) (m + 6) (5, 284) rfl rfl (s4.step (by decide)) (fun Γ5 M5 s5 => ?_)
  refine g_aload_n (q := 46) hx d_Mo_init_45 rfl rfl ?_
  refine g_sipush (q := 49) (v := nI 372) hx d_Mo_init_46 rfl (by decide) ?_
  refine g_newi (q := 51) hx d_Mo_init_49 rfl rfl (by decide) ac_int (by decide) (by decide) (fun hlo5 => ?_)
  refine g_putFa (q := 54) hx d_Mo_init_51 rfl fl_Mo_25 fi_7_10 rfl ((va_up_ne _ _ (by omega)).trans s5.2.1) (by omega) (by decide +kernel) ?_
  refine z_gen (Q := uQ m Γ M 6) (m + 7) (6, 656) rfl rfl (s5.step (by decide)) (fun Γ6 M6 s6 => ?_)
  refine g_aload_n (q := 55) hx d_Mo_init_54 rfl rfl ?_
  refine g_sipush (q := 58) (v := nI 372) hx d_Mo_init_55 rfl (by decide) ?_
  refine g_newi (q := 60) hx d_Mo_init_58 rfl rfl (by decide) ac_int (by decide) (by decide) (fun hlo6 => ?_)
  refine g_putFa (q := 63) hx d_Mo_init_60 rfl fl_Mo_28 fi_7_11 rfl ((va_up_ne _ _ (by omega)).trans s6.2.1) (by omega) (by decide +kernel) ?_
  refine z_gen (Q := uQ m Γ M 7) (m + 8) (7, 1028) rfl rfl (s6.step (by decide)) (fun Γ7 M7 s7 => ?_)
  refine g_aload_n (q := 64) hx d_Mo_init_63 rfl rfl ?_
  refine g_sipush (q := 67) (v := nI 6000) hx d_Mo_init_64 rfl (by decide) ?_
  refine g_newi (q := 69) hx d_Mo_init_67 rfl rfl (by decide) ac_int (by decide) (by decide) (fun hlo7 => ?_)
  refine g_putFa (q := 72) hx d_Mo_init_69 rfl fl_Mo_31 fi_7_13 rfl ((va_up_ne _ _ (by omega)).trans s7.2.1) (by omega) (by decide +kernel) ?_
  refine z_gen (Q := uQ m Γ M 8) (m + 9) (8, 7028) rfl rfl (s7.step (by decide)) (fun Γ8 M8 s8 => ?_)
  refine g_aload_n (q := 73) hx d_Mo_init_72 rfl rfl ?_
  refine g_bipush (q := 75) (v := nI 59) hx d_Mo_init_73 rfl (by decide) ?_
  refine g_newi (q := 77) hx d_Mo_init_75 rfl rfl (by decide) ac_int (by decide) (by decide) (fun hlo8 => ?_)
  refine g_putFa (q := 80) hx d_Mo_init_77 rfl fl_Mo_34 fi_7_16 rfl ((va_up_ne _ _ (by omega)).trans s8.2.1) (by omega) (by decide +kernel) ?_
  refine z_gen (Q := uQ m Γ M 9) (m + 10) (9, 7087) rfl rfl (s8.step (by decide)) (fun Γ9 M9 s9 => ?_)
  refine g_aload_n (q := 81) hx d_Mo_init_80 rfl rfl ?_
  refine g_sipush (q := 84) (v := nI 600) hx d_Mo_init_81 rfl (by decide) ?_
  refine g_newi (q := 86) hx d_Mo_init_84 rfl rfl (by decide) ac_int (by decide) (by decide) (fun hlo9 => ?_)
  refine g_putFa (q := 89) hx d_Mo_init_86 rfl fl_Mo_37 fi_7_18 rfl ((va_up_ne _ _ (by omega)).trans s9.2.1) (by omega) (by decide +kernel) ?_
  refine z_gen (Q := uQ m Γ M 10) (m + 11) (10, 7687) rfl rfl (s9.step (by decide)) (fun Γ10 M10 s10 => ?_)
  refine g_aload_n (q := 90) hx d_Mo_init_89 rfl rfl ?_
  refine g_sipush (q := 93) (v := nI 700) hx d_Mo_init_90 rfl (by decide) ?_
  refine g_newi (q := 95) hx d_Mo_init_93 rfl rfl (by decide) ac_int (by decide) (by decide) (fun hlo10 => ?_)
  refine g_putFa (q := 98) hx d_Mo_init_95 rfl fl_Mo_40 fi_7_23 rfl ((va_up_ne _ _ (by omega)).trans s10.2.1) (by omega) (by decide +kernel) ?_
  refine z_gen (Q := uQ m Γ M 11) (m + 12) (11, 8387) rfl rfl (s10.step (by decide)) (fun Γ11 M11 s11 => ?_)
  refine g_aload_n (q := 99) hx d_Mo_init_98 rfl rfl ?_
  refine g_bipush (q := 101) (v := nI 24) hx d_Mo_init_99 rfl (by decide) ?_
  refine g_newi (q := 103) hx d_Mo_init_101 rfl rfl (by decide) ac_int (by decide) (by decide) (fun hlo11 => ?_)
  refine g_putFa (q := 106) hx d_Mo_init_103 rfl fl_Mo_43 fi_7_24 rfl ((va_up_ne _ _ (by omega)).trans s11.2.1) (by omega) (by decide +kernel) ?_
  refine z_gen (Q := uQ m Γ M 12) (m + 13) (12, 8411) rfl rfl (s11.step (by decide)) (fun Γ12 M12 s12 => ?_)
  refine g_vret hx d_Mo_init_106 rfl hQ ⟨by decide, by decide⟩ ⟨rfl, rfl, s12.1, ?_, ?_⟩
  · have q := s12.2.2.2
    exact ⟨⟨s12.2.1, hm0⟩, ⟨(q 1 (by decide) (by decide)).1, (q 2 (by decide) (by decide)).1, (q 3 (by decide) (by decide)).1, (q 4 (by decide) (by decide)).1, (q 5 (by decide) (by decide)).1, (q 6 (by decide) (by decide)).1, (q 7 (by decide) (by decide)).1, (q 8 (by decide) (by decide)).1, (q 9 (by decide) (by decide)).1, (q 10 (by decide) (by decide)).1, (q 11 (by decide) (by decide)).1, (q 12 (by decide) (by decide)).1⟩, (q 1 (by decide) (by decide)).2, (q 2 (by decide) (by decide)).2, (q 3 (by decide) (by decide)).2, (q 4 (by decide) (by decide)).2, (q 5 (by decide) (by decide)).2, (q 6 (by decide) (by decide)).2, (q 7 (by decide) (by decide)).2, (q 8 (by decide) (by decide)).2, (q 9 (by decide) (by decide)).2, (q 10 (by decide) (by decide)).2, (q 11 (by decide) (by decide)).2, (q 12 (by decide) (by decide)).2⟩
  · have z : ∀ j, zi M12 m j = nI 0 := fun j => by
      show M12.1 m j = nI 0
      rw [s12.2.2.1]; exact hz j
    exact ⟨⟨z _, fun j hj => absurd hj (Nat.not_lt_zero _), Nat.zero_le _, fun _ => Nat.le_of_ble_eq_true rfl⟩, ⟨z _, Nat.zero_le _⟩, ⟨z _, Nat.zero_le _⟩, ⟨z _, Nat.zero_le _⟩, fun i hi => absurd hi (Nat.not_lt_zero _), fun i hi => absurd hi (Nat.not_lt_zero _), fun hg => absurd hg (by decide), ⟨z _, fun j hj => absurd hj (Nat.not_lt_zero _), Nat.zero_le _, fun _ => Nat.le_of_ble_eq_true rfl⟩⟩
