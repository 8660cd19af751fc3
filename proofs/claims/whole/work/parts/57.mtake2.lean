def bKA : Nat → Bool := fun i => i == 2 || i == 3 || i == 4 || i == 5 || i == 6 || i == 7 || i == 9 || i == 10 || i == 11 || i == 12
def bKI : Nat → Bool := fun i => i == 17 || i == 20 || i == 21 || i == 22
def bKL : Nat → Bool := fun i => i == 14 || i == 15 || i == 19
theorem bT_K : zSb bTA bKA := fun c h => by simp [bTA, bKA] at h ⊢; omega
theorem bW_K : zSb bWA bKA := fun c h => by simp [bWA, bKA] at h ⊢; omega
theorem bC_K : zSb bCA bKA := fun c h => by simp [bCA, bKA] at h ⊢; omega
theorem bGI_K : zSb bGI bKI := fun c h => by simp [bGI, bKI] at h ⊢; omega
theorem bWI_K : zSb bWI bKI := fun c h => by simp [bWI, bKI] at h ⊢; omega
theorem bCI_K : zSb bCI bKI := fun c h => by simp [bCI, bKI] at h ⊢; omega
theorem bGL_K : zSb bGL bKL := fun c h => by simp [bGL, bKL] at h ⊢; omega
theorem bCL_K : zSb bCL bKL := fun c h => by simp [bCL, bKL] at h ⊢; omega
/-- of the reads, the three that are taken alone have changed -/
def kT (m : Nat) (M M' : zM) : Prop := (∀ c j, 2 ≤ c → c ≤ 5 → (j < 27 ∨ 29 < j) → zi M' (m + c) j = zi M (m + c) j) ∧ ∀ c j, 6 ≤ c → c ≤ 7 → (j < 324 ∨ 360 ≤ j) → zi M' (m + c) j = zi M (m + c) j
theorem kT.tr {m : Nat} {M M' M'' : zM} (h : kT m M M') (h' : kT m M' M'') : kT m M M'' :=
  ⟨fun c j h1 h2 h3 => (h'.1 c j h1 h2 h3).trans (h.1 c j h1 h2 h3), fun c j h1 h2 h3 => (h'.2 c j h1 h2 h3).trans (h.2 c j h1 h2 h3)⟩
theorem kT.ofS {r m : Nat} {M M' : zM} (h : kS r m M M') (hr : 27 ≤ r ∧ r ≤ 29) : kT m M M' :=
  ⟨fun c j h1 h2 h3 => h.1 c j h1 h2 (by omega), fun c j h1 h2 h3 => h.2 c j h1 h2 (by omega)⟩
theorem kT.of {A I L : Nat → Bool} {m : Nat} {M M' : zM} (h : kF A I L m M M') (h2 : A 2 = false) (h3 : A 3 = false) (h4 : A 4 = false) (h5 : A 5 = false) (h6 : A 6 = false) (h7 : A 7 = false) : kT m M M' := kT.ofS (r := 27) (kS.of h h2 h3 h4 h5 h6 h7) (by omega)
theorem qS.oT {m r : Nat} {M M' : zM} (h : kT m M M') (hr : r < 27 ∨ 29 < r) {rd : mRd} (h12 : rd.2.length ≤ 12) (q : qS M m r rd) : qS M' m r rd := by
  obtain ⟨q1, q2, q3, q4, q5⟩ := q
  exact ⟨(h.1 2 r (by omega) (by omega) hr).trans q1, (h.1 3 r (by omega) (by omega) hr).trans q2, (h.1 4 r (by omega) (by omega) hr).trans q3, (h.1 5 r (by omega) (by omega) hr).trans q4,
    fun j hj => ⟨(h.2 6 _ (by omega) (by omega) (by omega)).trans (q5 j hj).1, (h.2 7 _ (by omega) (by omega) (by omega)).trans (q5 j hj).2⟩⟩
def mVv (by_ : Nat → Nat) : Nat → Nat
  | 0 => 0
  | i + 1 => mVv by_ i * 256 + by_ i
theorem mVv_lt {by_ : Nat → Nat} (h : ∀ j, by_ j < 256) : ∀ i, mVv by_ i < 256 ^ i
  | 0 => by simp [mVv]
  | i + 1 => by
    have h1 := mVv_lt h i
    have h2 := h i
    simp only [mVv, Nat.pow_succ]
    omega
theorem mBd_0 {by_ : Nat → Nat} (h : (mD0 by_).1 < 4294967296) (hff : ¬ (mD0 by_).1 < 4294967295) : mBd 0 (mD0 by_) := by
  obtain ⟨v, hv⟩ : ∃ v, v = (mD0 by_).1 := ⟨_, rfl⟩
  have e : mD0 by_ = (v, 4294967295, fun _ => 1024, 4) := by rw [hv]; rfl
  rw [← hv] at h hff
  rw [e]
  unfold mBd mBad mLi
  dsimp only
  refine ⟨⟨by omega, by omega, by omega, fun p _ => by omega, rfl⟩, Nat.le_refl _, by decide, ?_, fun p _ _ => rfl⟩
  rw [Nat.sub_self, Nat.pow_zero]
  omega
theorem mGd_0 {by_ : Nat → Nat} {k : Nat} (h : mDi (mD0 by_)) (hk : 4 + k < 100000) : mGd k (mD0 by_) := ⟨h, hk⟩
theorem mVv_4 (by_ : Nat → Nat) : mVv by_ 4 = (mD0 by_).1 := by
  simp only [mVv, mD0, Nat.zero_mul, Nat.zero_add]
def bOA : Nat → Bool := fun i => i == 12
set_option maxHeartbeats 4000000 in
set_option maxRecDepth 100000 in
theorem c_Mo_take (l : Launch) (E : zE) (Γ : zG) (n : Nat) (M : zM) (m : Nat) (len size b : Nat) (ref arch : Nat → Nat) (hq : qX Γ M.2.2 m) (hR : qR M m len ref) (hA : qA M m size arch) (hb : b < 100000) :
    zCt l E Y_Mo_take 5 (0, 0) [.ref m, .int (nI b)] Γ n M (zPi Γ n (fun v M' => kF bKA bKI bKL m M M' ∧ kT m M M' ∧ ((∃ rs, mTake ref len arch size b = some rs ∧ v = nI rs.length ∧ ∀ i, i < rs.length → qS M' m (27 + i) (mAt rs i) ∧ mOk ref len (mAt rs i) ∧ 0 < mBc (mAt rs i).2) ∨ v = nI 0 ∧ mTake ref len arch size b = none))) := by
  refine zCt.of [(0, .ref m), (1, .int (nI b))] (by decide) (Nat.le_of_ble_eq_true rfl) rfl (fun f hfl hx hQ => ?_)
  have hq0 := hq
  have hP : M.2.2 = M.2.2 := rfl
  have hm0 := hq.m0
  have hl160 := hR.2.2.1
  have hs20 := hA.2.2.1
  obtain ⟨c, hc⟩ : ∃ c, c = arch b := ⟨_, rfl⟩
  obtain ⟨rl, hrl⟩ : ∃ c, c = arch (b + 2) := ⟨_, rfl⟩
  obtain ⟨by_, hby⟩ : ∃ y, y = mBy arch (b + 3) rl := ⟨_, rfl⟩
  have hc256 : c < 256 := by rw [hc]; exact hA.2.2.2 b
  have hrl256 : rl < 256 := by rw [hrl]; exact hA.2.2.2 (b + 2)
  have hY3 : ∀ j, rl ≤ j → by_ j = 0 := fun j hj => by rw [hby]; exact if_neg (by omega)
  have hY4 : ∀ j, by_ j < 256 := fun j => by
    rw [hby]; unfold mBy; split
    · exact hA.2.2.2 _
    · omega
  have road : (mTake ref len arch size b = match mTs by_ ref len c (arch (b + 1)) (mD0 by_) with
    | none => none
    | some rs => if mBl ref rs = 5 + rl ∧ mSame (mBlk ref rs) (fun j => arch (b + j)) (5 + rl) = true then some rs else none) → 1 ≤ c → c ≤ 3 → b + 5 + rl ≤ size → zGo f E Γ n (0, 0) M 52 [(3, .int (nI rl)), (2, .int (nI c)), (0, .ref m), (1, .int (nI b))] [] := by
    intro hT hc1 hc3 hbs
    have hpos9 := hA.2.2.2 (b + 1)
    have part3 : ∀ (M1 : zM) (dn : List mRd) (pos i : Nat), dn.length = c → kF bKA bKI bKL m M M1 → kT m M M1 → (∀ q, q < c → zi M1 (m + 12) q = nI (27 + q)) → (∀ i, i < dn.length → qS M1 m (27 + i) (mAt dn i) ∧ mOk ref len (mAt dn i) ∧ 0 < mBc (mAt dn i).2) → (∀ q, q + 1 < dn.length → (mAt dn q).1 ≤ (mAt dn (q + 1)).1) → (mTake ref len arch size b = if mBl ref dn = 5 + rl ∧ mSame (mBlk ref dn) (fun j => arch (b + j)) (5 + rl) = true then some dn else none) → zGo f E Γ n (0, 0) M1 176 [(5, .int (nI i)), (4, .int (nI pos)), (3, .int (nI rl)), (2, .int (nI c)), (0, .ref m), (1, .int (nI b))] [] := by
      intro M1 dn pos i j3 k1 kt1 jo j4 j5 hT3
      subst j3
      replace hP := k1.r
      have hokd : ∀ r ∈ dn, mOk ref len r := fun r hr => by
        obtain ⟨q, hq, rfl⟩ := mAt_mem hr
        exact (j4 q hq).2.1
      have hbl9 := mBl_le hR.2.2.2 hR.2.2.1 hokd (by omega)
      refine g_aload_n (q := 177) hx d_Mo_take_176 rfl rfl ?_
      refine g_iconst (q := 178) (v := nI 0) hx d_Mo_take_177 rfl (by decide) ?_
      refine g_iload_n (q := 179) hx d_Mo_take_178 rfl rfl ?_
      refine g_cv (q := 182) (zrunV hx d_Mo_take_179 lk_Mo_139 rfl rfl hq.g0 rfl rfl (Nat.le_of_ble_eq_true rfl) (by decide) (by omega) (by omega) (c_Mo_write _ E Γ n _ m 0 len ref dn (fun i => 27 + i) (by rw [k1.r]; exact hq0) (hR.kp k1 rfl rfl) (by omega) (by omega) (by omega) (fun i hi => ⟨by rw [Nat.zero_add]; exact jo i (by omega), by omega⟩) (fun i hi => (j4 i hi).1) (fun i hi => (j4 i hi).2.1) j5)) rfl (fun M2 p179 => ?_)
      obtain ⟨z2, b1⟩ := p179
      have hp1 : ∀ i, i < dn.length → qS M2 m (27 + i) (mAt dn i) ∧ mOk ref len (mAt dn i) ∧ 0 < mBc (mAt dn i).2 := fun i hi => ⟨(j4 i hi).1.kp z2 rfl rfl rfl rfl rfl rfl, (j4 i hi).2⟩
      replace k1 := k1.tr (z2.mono bW_K bWI_K bCL_K)
      replace kt1 := kt1.tr (kT.of z2 rfl rfl rfl rfl rfl rfl)
      replace hP := k1.r
      refine g_aload_n (q := 183) hx d_Mo_take_182 rfl rfl ?_
      refine g_geti (q := 186) hx d_Mo_take_183 rfl fl_Mo_119 hq.g0 b1.1 ?_
      refine g_iconst (q := 187) (v := nI 5) hx d_Mo_take_186 rfl (by decide) ?_
      refine g_iload_n (q := 188) hx d_Mo_take_187 rfl rfl ?_
      refine g_iadd (q := 189) hx d_Mo_take_188 rfl (nI_add _ _) ?_
      refine g_icmp_ne (q := 192) (t := 196) hx d_Mo_take_189 rfl rfl (not_congr (nI_eq (by omega) (by omega))) (fun h189 => ?_) (fun h189 => ?_)
      · refine g_iconst (q := 197) (v := nI 0) hx d_Mo_take_196 rfl (by decide) ?_
        refine g_istore (q := 199) (lc' := [(5, _), (4, _), (3, _), (2, _), (0, _), (1, _)]) hx d_Mo_take_197 rfl (by decide) rfl ?_
        refine g_iconst (q := 200) (v := nI 0) hx d_Mo_take_199 rfl (by decide) ?_
        refine g_istore (q := 202) (lc' := [(6, _), (5, _), (4, _), (3, _), (2, _), (0, _), (1, _)]) hx d_Mo_take_200 rfl (by decide) rfl ?_
        refine g_iload (q := 204) hx d_Mo_take_202 rfl rfl ?_
        refine g_aload_n (q := 205) hx d_Mo_take_204 rfl rfl ?_
        refine g_geti (q := 208) hx d_Mo_take_205 rfl fl_Mo_119 hq.g0 b1.1 ?_
        refine g_icmp_ge (q := 211) (t := 248) hx d_Mo_take_208 rfl rfl (nI_leI (by omega) (by omega)) (fun h208 => ?_) (fun h208 => ?_)
        · refine g_iload (q := 250) hx d_Mo_take_248 rfl rfl ?_
          refine g_if_eq (q := 253) (t := 257) hx d_Mo_take_250 rfl rfl (zb_eq0 (by omega)) (fun h250 => ?_) (fun h250 => ?_)
          · refine g_iconst (q := 258) (v := nI 0) hx d_Mo_take_257 rfl (by decide) ?_
            exact g_iret hx d_Mo_take_258 rfl hQ ⟨Nat.le_refl _, Nat.le_refl _⟩ ⟨_, rfl, rfl, rfl, k1, kt1, Or.inr ⟨rfl, by rw [hT3, if_neg (fun q => h189 q.1)]⟩⟩
          · exact absurd h250 (by omega)
        · refine g_iload (q := 213) hx d_Mo_take_211 rfl rfl ?_
          refine g_if_eq (q := 216) (t := 248) hx d_Mo_take_213 rfl rfl (zb_eq0 (by omega)) (fun h213 => ?_) (fun h213 => ?_)
          · refine g_iload (q := 250) hx d_Mo_take_248 rfl rfl ?_
            refine g_if_eq (q := 253) (t := 257) hx d_Mo_take_250 rfl rfl (zb_eq0 (by omega)) (fun h250 => ?_) (fun h250 => ?_)
            · refine g_iconst (q := 258) (v := nI 0) hx d_Mo_take_257 rfl (by decide) ?_
              exact g_iret hx d_Mo_take_258 rfl hQ ⟨Nat.le_refl _, Nat.le_refl _⟩ ⟨_, rfl, rfl, rfl, k1, kt1, Or.inr ⟨rfl, by rw [hT3, if_neg (fun q => h189 q.1)]⟩⟩
            · exact absurd h250 (by omega)
          · exact absurd h213 (by omega)
      · refine g_iconst (q := 193) (v := nI 1) hx d_Mo_take_192 rfl (by decide) ?_
        refine g_goto (q := 197) hx d_Mo_take_193 rfl ?_
        refine g_istore (q := 199) (lc' := [(5, _), (4, _), (3, _), (2, _), (0, _), (1, _)]) hx d_Mo_take_197 rfl (by decide) rfl ?_
        refine g_iconst (q := 200) (v := nI 0) hx d_Mo_take_199 rfl (by decide) ?_
        refine g_istore (q := 202) (lc' := [(6, _), (5, _), (4, _), (3, _), (2, _), (0, _), (1, _)]) hx d_Mo_take_200 rfl (by decide) rfl ?_
        have hbl5 : mBl ref dn = 5 + rl := (by omega)
        have loop2 : ∀ (j : Nat) (M1 : zM), j ≤ mBl ref dn → kF bKA bKI bKL m M M1 → pB M1 m (mBl ref dn) (mBlk ref dn) → (∀ q, q < j → mBlk ref dn q = arch (b + q)) → kT m M M1 → (∀ i, i < dn.length → qS M1 m (27 + i) (mAt dn i) ∧ mOk ref len (mAt dn i) ∧ 0 < mBc (mAt dn i).2) → zGo f E Γ n (0, 0) M1 202 [(6, .int (nI j)), (5, .int (nI 1)), (4, .int (nI pos)), (3, .int (nI rl)), (2, .int (nI dn.length)), (0, .ref m), (1, .int (nI b))] [] := by
          refine z_lp (fun j => mBl ref dn - j) _ ?_
          intro j M1 ih2 hj k1 b1 heq kt1 hp1
          replace hP := k1.r
          refine g_iload (q := 204) hx d_Mo_take_202 rfl rfl ?_
          refine g_aload_n (q := 205) hx d_Mo_take_204 rfl rfl ?_
          refine g_geti (q := 208) hx d_Mo_take_205 rfl fl_Mo_119 hq.g0 b1.1 ?_
          refine g_icmp_ge (q := 211) (t := 248) hx d_Mo_take_208 rfl rfl (nI_leI (by omega) (by omega)) (fun h208 => ?_) (fun h208 => ?_)
          · refine g_iload (q := 250) hx d_Mo_take_248 rfl rfl ?_
            refine g_if_eq (q := 253) (t := 257) hx d_Mo_take_250 rfl rfl (zb_eq0 (by omega)) (fun h250 => ?_) (fun h250 => ?_)
            · exact absurd h250 (by omega)
            · refine g_iload_n (q := 254) hx d_Mo_take_253 rfl rfl ?_
              refine g_goto (q := 258) hx d_Mo_take_254 rfl ?_
              exact g_iret hx d_Mo_take_258 rfl hQ ⟨Nat.le_refl _, Nat.le_refl _⟩ ⟨_, rfl, rfl, rfl, k1, kt1, Or.inl ⟨dn, by rw [hT3, if_pos ⟨hbl5, mSame_iff.mpr (fun q hq => heq q (by omega))⟩], rfl, hp1⟩⟩
          · refine g_iload (q := 213) hx d_Mo_take_211 rfl rfl ?_
            refine g_if_eq (q := 216) (t := 248) hx d_Mo_take_213 rfl rfl (zb_eq0 (by omega)) (fun h213 => ?_) (fun h213 => ?_)
            · exact absurd h213 (by omega)
            · have hb9 := mBlk_lt hR.2.2.2 hR.2.2.1 hokd (by omega) (j := j) (by omega)
              have ha9 := hA.2.2.2 (b + j)
              refine g_aload_n (q := 217) hx d_Mo_take_216 rfl rfl ?_
              refine g_geta (q := 220) hx d_Mo_take_217 rfl fl_Mo_40 hq.g0 (hq.p11 hP) (by first | exact Nat.succ_ne_zero _ | omega) ?_
              refine g_iload (q := 222) hx d_Mo_take_220 rfl rfl ?_
              refine g_iald (q := 223) hx d_Mo_take_222 rfl hq.g11 rfl (by omega) (by decide) (b1.2 j (by omega)) ?_
              refine g_aload_n (q := 224) hx d_Mo_take_223 rfl rfl ?_
              refine g_geta (q := 227) hx d_Mo_take_224 rfl fl_Mo_31 hq.g0 (hq.p8 hP) (by first | exact Nat.succ_ne_zero _ | omega) ?_
              refine g_iload_n (q := 228) hx d_Mo_take_227 rfl rfl ?_
              refine g_iload (q := 230) hx d_Mo_take_228 rfl rfl ?_
              refine g_iadd (q := 231) hx d_Mo_take_230 rfl (nI_add _ _) ?_
              refine g_iald (q := 232) hx d_Mo_take_231 rfl hq.g8 rfl (by omega) (by decide) ((k1.a 8 (by decide) rfl _).trans (hA.2.1 (b + j) (by omega))) ?_
              refine g_icmp_ne (q := 235) (t := 239) hx d_Mo_take_232 rfl rfl (not_congr (nI_eq (by omega) (by omega))) (fun h232 => ?_) (fun h232 => ?_)
              · refine g_iconst (q := 240) (v := nI 0) hx d_Mo_take_239 rfl (by decide) ?_
                refine g_istore (q := 242) (lc' := [(5, _), (6, _), (4, _), (3, _), (2, _), (0, _), (1, _)]) hx d_Mo_take_240 rfl (by decide) rfl ?_
                refine g_iinc (q := 245) (lc' := [(6, _), (5, _), (4, _), (3, _), (2, _), (0, _), (1, _)]) hx d_Mo_take_242 rfl rfl (z_inc _) (by decide) rfl ?_
                refine g_goto (q := 202) hx d_Mo_take_245 rfl ?_
                refine g_iload (q := 204) hx d_Mo_take_202 rfl rfl ?_
                refine g_aload_n (q := 205) hx d_Mo_take_204 rfl rfl ?_
                refine g_geti (q := 208) hx d_Mo_take_205 rfl fl_Mo_119 hq.g0 b1.1 ?_
                refine g_icmp_ge (q := 211) (t := 248) hx d_Mo_take_208 rfl rfl (nI_leI (by omega) (by omega)) (fun h208 => ?_) (fun h208 => ?_)
                · refine g_iload (q := 250) hx d_Mo_take_248 rfl rfl ?_
                  refine g_if_eq (q := 253) (t := 257) hx d_Mo_take_250 rfl rfl (zb_eq0 (by omega)) (fun h250 => ?_) (fun h250 => ?_)
                  · refine g_iconst (q := 258) (v := nI 0) hx d_Mo_take_257 rfl (by decide) ?_
                    exact g_iret hx d_Mo_take_258 rfl hQ ⟨Nat.le_refl _, Nat.le_refl _⟩ ⟨_, rfl, rfl, rfl, k1, kt1, Or.inr ⟨rfl, by rw [hT3, if_neg (fun q => h232 (mSame_iff.mp q.2 j (by omega)))]⟩⟩
                  · exact absurd h250 (by omega)
                · refine g_iload (q := 213) hx d_Mo_take_211 rfl rfl ?_
                  refine g_if_eq (q := 216) (t := 248) hx d_Mo_take_213 rfl rfl (zb_eq0 (by omega)) (fun h213 => ?_) (fun h213 => ?_)
                  · refine g_iload (q := 250) hx d_Mo_take_248 rfl rfl ?_
                    refine g_if_eq (q := 253) (t := 257) hx d_Mo_take_250 rfl rfl (zb_eq0 (by omega)) (fun h250 => ?_) (fun h250 => ?_)
                    · refine g_iconst (q := 258) (v := nI 0) hx d_Mo_take_257 rfl (by decide) ?_
                      exact g_iret hx d_Mo_take_258 rfl hQ ⟨Nat.le_refl _, Nat.le_refl _⟩ ⟨_, rfl, rfl, rfl, k1, kt1, Or.inr ⟨rfl, by rw [hT3, if_neg (fun q => h232 (mSame_iff.mp q.2 j (by omega)))]⟩⟩
                    · exact absurd h250 (by omega)
                  · exact absurd h213 (by omega)
              · refine g_iconst (q := 236) (v := nI 1) hx d_Mo_take_235 rfl (by decide) ?_
                refine g_goto (q := 240) hx d_Mo_take_236 rfl ?_
                refine g_istore (q := 242) (lc' := [(5, _), (6, _), (4, _), (3, _), (2, _), (0, _), (1, _)]) hx d_Mo_take_240 rfl (by decide) rfl ?_
                refine g_iinc (q := 245) (lc' := [(6, _), (5, _), (4, _), (3, _), (2, _), (0, _), (1, _)]) hx d_Mo_take_242 rfl rfl (z_inc _) (by decide) rfl ?_
                refine g_goto (q := 202) hx d_Mo_take_245 rfl ?_
                refine z_perm (lc' := [(6, .int (nI (j + 1))), (5, .int (nI 1)), (4, .int (nI pos)), (3, .int (nI rl)), (2, .int (nI dn.length)), (0, .ref m), (1, .int (nI b))]) (fun q hq => by simp only [List.mem_cons, List.not_mem_nil, or_false] at hq ⊢; rcases hq with h | h | h | h | h | h | h <;> simp [h]) ?_
                exact ih2 (j + 1) M1 (by omega) (by omega) k1 b1 (fun q hq => by
                  by_cases e9 : q = j
                  · subst e9; omega
                  · exact heq q (by omega)) kt1 hp1
        refine z_perm (lc' := [(6, .int (nI 0)), (5, .int (nI 1)), (4, .int (nI pos)), (3, .int (nI rl)), (2, .int (nI dn.length)), (0, .ref m), (1, .int (nI b))]) (fun q hq => by simp only [List.mem_cons, List.not_mem_nil, or_false] at hq ⊢; rcases hq with h | h | h | h | h | h | h <;> simp [h]) ?_
        exact loop2 0 _ (Nat.zero_le _) k1 b1 (fun q hq => absurd hq (Nat.not_lt_zero _)) kt1 hp1
    have reads : ∀ M1, kF bKA bKI bKL m M M1 → kT m M M1 → qY M1 m (b + 3) rl by_ → pD M1 m (b + 3) (mD0 by_) → zGo f E Γ n (0, 0) M1 121 [(4, .int (nI (arch (b + 1)))), (3, .int (nI rl)), (2, .int (nI c)), (0, .ref m), (1, .int (nI b))] [] := by
      intro M1 k1 kt1 jY jD
      obtain ⟨pos, hpe⟩ : ∃ p, p = arch (b + 1) := ⟨_, rfl⟩
      rw [← hpe]
      have hpos : pos ≤ 255 := by omega
      by_cases hff : (mD0 by_).1 < 4294967295
      · have hdi := mD0_ok hff
        have loop : ∀ (i : Nat) (M1 : zM), ∀ (dn : List mRd) (pos : Nat) (s1 : mDe), i ≤ c → dn.length = i → kF bKA bKI bKL m M M1 → kT m M M1 → qY M1 m (b + 3) rl by_ → pD M1 m (b + 3) s1 → mGd (304 * (c - i)) s1 → pos ≤ 255 → (∀ q, q < i → zi M1 (m + 12) q = nI (27 + q)) → (∀ i, i < dn.length → qS M1 m (27 + i) (mAt dn i) ∧ mOk ref len (mAt dn i) ∧ 0 < mBc (mAt dn i).2) → (∀ q, q + 1 < dn.length → (mAt dn q).1 ≤ (mAt dn (q + 1)).1) → (0 < dn.length → (mAt dn (dn.length - 1)).1 ≤ pos) → (match mTs by_ ref len (c - i) pos s1 with
          | none => none
          | some l => some (dn ++ l)) = mTs by_ ref len c (arch (b + 1)) (mD0 by_) → zGo f E Γ n (0, 0) M1 124 [(5, .int (nI i)), (4, .int (nI pos)), (3, .int (nI rl)), (2, .int (nI c)), (0, .ref m), (1, .int (nI b))] [] := by
          refine z_lp (fun i => c - i) _ ?_
          intro i M1 ih dn pos s1 hi j3 k1 kt1 jY jD jg hpos jo j4 j5 j6 j7
          replace hP := k1.r
          refine g_iload (q := 126) hx d_Mo_take_124 rfl rfl ?_
          refine g_iload_n (q := 127) hx d_Mo_take_126 rfl rfl ?_
          refine g_icmp_ge (q := 130) (t := 176) hx d_Mo_take_127 rfl rfl (nI_leI (by omega) (by omega)) (fun h127 => ?_) (fun h127 => ?_)
          · obtain rfl : i = c := (by omega)
            rw [Nat.sub_self] at j7
            simp only [mTs, List.append_nil] at j7
            rw [← j7] at hT
            dsimp only at hT
            exact part3 M1 dn pos i j3 k1 kt1 jo j4 j5 hT
          · refine g_aload_n (q := 131) hx d_Mo_take_130 rfl rfl ?_
            refine g_bipush (q := 133) (v := nI 27) hx d_Mo_take_131 rfl (by decide) ?_
            refine g_iload (q := 135) hx d_Mo_take_133 rfl rfl ?_
            refine g_iadd (q := 136) hx d_Mo_take_135 rfl (nI_add _ _) ?_
            refine g_iload (q := 138) hx d_Mo_take_136 rfl rfl ?_
            refine g_ci (q := 141) (zrunV hx d_Mo_take_138 lk_Mo_168 rfl rfl hq.g0 rfl rfl (Nat.le_of_ble_eq_true rfl) (by decide) (by omega) (by omega) (c_Mo_takeRead _ E Γ n _ m (27 + i) pos len (304 * (c - (i + 1))) ref (b + 3) rl by_ s1 (by rw [k1.r]; exact hq0) jY jD (hR.kp k1 rfl rfl) (by omega) hpos (jg.mono (by omega)))) rfl (fun r138 M2 p138 => ?_)
            obtain ⟨z2, x2, p138⟩ := p138
            have k2 : kF bKA bKI bKL m M M2 := k1.tr (z2.mono bT_K bGI_K bGL_K)
            have kt2 : kT m M M2 := kt1.tr (kT.ofS x2 (by omega))
            have hP := k2.r
            rcases p138 with ⟨rfl, rd, t, e1, s2, hok2, hbc2, d2, g2⟩ | ⟨rfl, e1⟩
            · refine g_if_ne (q := 144) (t := 146) hx d_Mo_take_141 rfl rfl (zb_ne0 (by omega)) (fun h141 => ?_) (fun h141 => ?_)
              · refine g_aload_n (q := 147) hx d_Mo_take_146 rfl rfl ?_
                refine g_geta (q := 150) hx d_Mo_take_147 rfl fl_Mo_13 hq.g0 (hq.p2 hP) (by first | exact Nat.succ_ne_zero _ | omega) ?_
                refine g_bipush (q := 152) (v := nI 27) hx d_Mo_take_150 rfl (by decide) ?_
                refine g_iload (q := 154) hx d_Mo_take_152 rfl rfl ?_
                refine g_iadd (q := 155) hx d_Mo_take_154 rfl (nI_add _ _) ?_
                refine g_iald (q := 156) hx d_Mo_take_155 rfl hq.g2 rfl (by omega) (by decide) s2.1 ?_
                refine g_istore (q := 158) (lc' := [(4, _), (5, _), (3, _), (2, _), (0, _), (1, _)]) hx d_Mo_take_156 rfl (by decide) rfl ?_
                refine g_aload_n (q := 159) hx d_Mo_take_158 rfl rfl ?_
                refine g_geta (q := 162) hx d_Mo_take_159 rfl fl_Mo_43 hq.g0 (hq.p12 hP) (by first | exact Nat.succ_ne_zero _ | omega) ?_
                refine g_iload (q := 164) hx d_Mo_take_162 rfl rfl ?_
                refine g_bipush (q := 166) (v := nI 27) hx d_Mo_take_164 rfl (by decide) ?_
                refine g_iload (q := 168) hx d_Mo_take_166 rfl rfl ?_
                refine g_iadd (q := 169) hx d_Mo_take_168 rfl (nI_add _ _) ?_
                refine g_iast (q := 170) hx d_Mo_take_169 rfl hq.g12 rfl (by omega) (by decide) ?_
                refine g_iinc (q := 173) (lc' := [(5, _), (4, _), (3, _), (2, _), (0, _), (1, _)]) hx d_Mo_take_170 rfl rfl (z_inc _) (by decide) rfl ?_
                refine g_goto (q := 124) hx d_Mo_take_173 rfl ?_
                have hge := mTr_ge e1
                have hfit9 := mPs_fit hok2
                rw [show c - i = (c - (i + 1)) + 1 by omega, mTs_some e1] at j7
                refine z_perm (lc' := [(5, .int (nI (i + 1))), (4, .int (nI rd.1)), (3, .int (nI rl)), (2, .int (nI c)), (0, .ref m), (1, .int (nI b))]) (fun q hq => by simp only [List.mem_cons, List.not_mem_nil, or_false] at hq ⊢; rcases hq with h | h | h | h | h | h <;> simp [h]) ?_
                refine ih (i + 1) _ (by show c - (i + 1) < c - i; omega) (dn ++ [rd]) rd.1 t (by omega) (by simp [j3]) (k2.sa rfl (by decide) (by decide)) (kt2.tr (kT.of (A := bOA) (I := bN) (L := bN) (kF.rf.sa rfl (by decide) (by decide)) rfl rfl rfl rfl rfl rfl)) (jY.kp (A := bKA) (I := bGI) (L := bKL) ((z2.mono bT_K (zSb_rf _) bGL_K).sa rfl (by decide) (by decide)) rfl rfl) (d2.kp (A := bOA) (I := bN) (L := bN) (kF.rf.sa rfl (by decide) (by decide)) rfl rfl rfl rfl) g2 (by omega) (fun q hq => ?_) (fun q hq => ?_) (fun q hq => ?_) (fun q => ?_) ?_
                · by_cases e : q = i
                  · subst e; exact zi_s _ _ _ _
                  · rw [zi_k e, z2.a 12 (by decide) rfl]; exact jo q (by omega)
                · have hkeep : kF bOA bN bN m M2 (zsi M2 (m + 12) i (nI (27 + i))) := kF.rf.sa rfl (by decide) (by decide)
                  by_cases e : q = i
                  · subst e
                    rw [← j3, mAt_last, j3]
                    exact ⟨s2.kp hkeep rfl rfl rfl rfl rfl rfl, hok2, hbc2⟩
                  · have hq' : q < dn.length := by simp at hq; omega
                    rw [mAt_app hq']
                    have h9 := j4 q hq'
                    exact ⟨(qS.ot x2 (by omega) h9.2.1.2.2.2 h9.1).kp hkeep rfl rfl rfl rfl rfl rfl, h9.2⟩
                · have hq' : q + 1 < i + 1 := by simp [j3] at hq; omega
                  by_cases e : q + 1 = i
                  · rw [mAt_app (by omega), show q + 1 = dn.length by omega, mAt_last]
                    have := j6 (by omega)
                    rw [show dn.length - 1 = q by omega] at this
                    omega
                  · rw [mAt_app (by omega), mAt_app (by omega)]; exact j5 q (by omega)
                · rw [show (dn ++ [rd]).length - 1 = dn.length by simp, mAt_last]; exact Nat.le_refl _
                · rw [← j7]
                  cases mTs by_ ref len (c - (i + 1)) rd.1 t with
                  | none => rfl
                  | some l => simp
              · exact absurd h141 (by omega)
            · refine g_if_ne (q := 144) (t := 146) hx d_Mo_take_141 rfl rfl (zb_ne0 (by omega)) (fun h141 => ?_) (fun h141 => ?_)
              · exact absurd h141 (by omega)
              · refine g_iconst (q := 145) (v := nI 0) hx d_Mo_take_144 rfl (by decide) ?_
                exact g_iret hx d_Mo_take_145 rfl hQ ⟨Nat.le_refl _, Nat.le_refl _⟩ ⟨_, rfl, rfl, rfl, k2, kt2, Or.inr ⟨rfl, by rw [hT, ← j7, show c - i = (c - (i + 1)) + 1 by omega, mTs_none e1]⟩⟩
        refine g_iconst (q := 122) (v := nI 0) hx d_Mo_take_121 rfl (by decide) ?_
        refine g_istore (q := 124) (lc' := [(5, _), (4, _), (3, _), (2, _), (0, _), (1, _)]) hx d_Mo_take_122 rfl (by decide) rfl ?_
        exact loop 0 M1 [] pos (mD0 by_) (Nat.zero_le _) rfl k1 kt1 jY jD (mGd_0 hdi (by omega)) hpos (fun q hq => absurd hq (Nat.not_lt_zero _)) (fun q hq => absurd hq (Nat.not_lt_zero _)) (fun q hq => absurd hq (Nat.not_lt_zero _)) (fun q => absurd q (Nat.lt_irrefl _)) (by rw [Nat.sub_zero]; rw [hpe]; cases mTs by_ ref len c (arch (b + 1)) (mD0 by_) <;> rfl)
      · have hTs : mTs by_ ref len c (arch (b + 1)) (mD0 by_) = none := by
          rw [show c = (c - 1) + 1 by omega]
          exact mTs_ff hl160 hff
        have hv4 := mVv_lt hY4 4
        rw [mVv_4] at hv4
        have hbd : mBd 0 (mD0 by_) := mBd_0 (Nat.lt_of_lt_of_le hv4 (by decide)) hff
        replace hP := k1.r
        refine g_iconst (q := 122) (v := nI 0) hx d_Mo_take_121 rfl (by decide) ?_
        refine g_istore (q := 124) (lc' := [(5, _), (4, _), (3, _), (2, _), (0, _), (1, _)]) hx d_Mo_take_122 rfl (by decide) rfl ?_
        refine g_iload (q := 126) hx d_Mo_take_124 rfl rfl ?_
        refine g_iload_n (q := 127) hx d_Mo_take_126 rfl rfl ?_
        refine g_icmp_ge (q := 130) (t := 176) hx d_Mo_take_127 rfl rfl (nI_leI (by omega) (by omega)) (fun h127 => ?_) (fun h127 => ?_)
        · exact absurd h127 (by omega)
        · refine g_aload_n (q := 131) hx d_Mo_take_130 rfl rfl ?_
          refine g_bipush (q := 133) (v := nI 27) hx d_Mo_take_131 rfl (by decide) ?_
          refine g_iload (q := 135) hx d_Mo_take_133 rfl rfl ?_
          refine g_iadd (q := 136) hx d_Mo_take_135 rfl (nI_add _ _) ?_
          refine g_iload (q := 138) hx d_Mo_take_136 rfl rfl ?_
          refine g_ci (q := 141) (zrunV hx d_Mo_take_138 lk_Mo_168 rfl rfl hq.g0 rfl rfl (Nat.le_of_ble_eq_true rfl) (by decide) (by omega) (by omega) (c_Mo_takeReadB _ E Γ n _ m (27 + 0) pos len ref (b + 3) rl by_ (mD0 by_) (by rw [k1.r]; exact hq0) jY jD (hR.kp k1 rfl rfl) (by omega) hpos hbd)) rfl (fun r138 M2 p138 => ?_)
          obtain ⟨z2, x2, rfl⟩ := p138
          refine g_if_ne (q := 144) (t := 146) hx d_Mo_take_141 rfl rfl (zb_ne0 (by omega)) (fun h141 => ?_) (fun h141 => ?_)
          · exact absurd h141 (by omega)
          · refine g_iconst (q := 145) (v := nI 0) hx d_Mo_take_144 rfl (by decide) ?_
            exact g_iret hx d_Mo_take_145 rfl hQ ⟨Nat.le_refl _, Nat.le_refl _⟩ ⟨_, rfl, rfl, rfl, (k1.tr (z2.mono bT_K bGI_K bGL_K)), (kt1.tr (kT.ofS x2 (by omega))), Or.inr ⟨rfl, by rw [hT, hTs]⟩⟩
    have loop1 : ∀ (i : Nat) (M1 : zM), i ≤ 4 → kF bKA bKI bKL m M M1 → kT m M M1 → zl M1 m 19 = lN (mVv by_ i) → zi M1 m 20 = nI (b + 3 + i) → zi M1 m 21 = nI (b + 3 + rl) → zl M1 m 15 = lN 4294967295 → (∀ p, p < 59 → zi M1 (m + 9) p = nI 1024) → zGo f E Γ n (0, 0) M1 81 [(4, .int (nI i)), (3, .int (nI rl)), (2, .int (nI c)), (0, .ref m), (1, .int (nI b))] [] := by
      refine z_lp (fun i => 4 - i) _ ?_
      intro i M1 ih hi k1 kt1 t2 t3 t4 t5 t6
      replace hP := k1.r
      refine g_iload (q := 83) hx d_Mo_take_81 rfl rfl ?_
      refine g_iconst (q := 84) (v := nI 4) hx d_Mo_take_83 rfl (by decide) ?_
      refine g_icmp_ge (q := 87) (t := 111) hx d_Mo_take_84 rfl rfl (nI_leI (by omega) (by omega)) (fun h84 => ?_) (fun h84 => ?_)
      · obtain rfl : i = 4 := (by omega)
        rw [mVv_4] at t2
        refine g_aload_n (q := 112) hx d_Mo_take_111 rfl rfl ?_
        refine g_geta (q := 115) hx d_Mo_take_112 rfl fl_Mo_31 hq.g0 (hq.p8 hP) (by first | exact Nat.succ_ne_zero _ | omega) ?_
        refine g_iload_n (q := 116) hx d_Mo_take_115 rfl rfl ?_
        refine g_iconst (q := 117) (v := nI 1) hx d_Mo_take_116 rfl (by decide) ?_
        refine g_iadd (q := 118) hx d_Mo_take_117 rfl (nI_add _ _) ?_
        refine g_iald (q := 119) hx d_Mo_take_118 rfl hq.g8 rfl (by omega) (by decide) ((k1.a 8 (by decide) rfl _).trans (hA.2.1 (b + 1) (by omega))) ?_
        refine g_istore (q := 121) (lc' := [(4, _), (3, _), (2, _), (0, _), (1, _)]) hx d_Mo_take_119 rfl (by decide) rfl ?_
        exact reads M1 k1 kt1 ⟨t4, fun j hj => (k1.a 8 (by decide) rfl _).trans ((hA.2.1 _ (by omega)).trans (congrArg nI (by rw [hby]; unfold mBy; rw [if_pos hj]))), hY3, hY4, by omega⟩ ⟨t2, t5, t6, t3⟩
      · have hv9 := mVv_lt hY4 i
        have hv8 : 256 ^ i ≤ 256 ^ 4 := Nat.pow_le_pow_right (by omega) (by omega)
        refine g_aload_n (q := 88) hx d_Mo_take_87 rfl rfl ?_
        refine g_aload_n (q := 89) hx d_Mo_take_88 rfl rfl ?_
        refine g_getl (q := 92) hx d_Mo_take_89 rfl fl_Mo_152 hq.g0 t2 ?_
        refine g_ldc2 (q := 95) (v := lN 256) hx d_Mo_take_92 rfl ct_Mo_106 ?_
        refine g_lmul (q := 96) hx d_Mo_take_95 rfl (lN_mul _ _) ?_
        refine g_aload_n (q := 97) hx d_Mo_take_96 rfl rfl ?_
        refine g_ci (q := 100) (zrunV hx d_Mo_take_97 lk_Mo_155 rfl rfl hq.g0 rfl rfl (Nat.le_of_ble_eq_true rfl) (by decide) (by omega) (by omega) (c_Mo_nextByte _ E Γ n _ m (b + 3) rl i by_ (by rw [k1.r]; exact hq0) ⟨t4, fun j hj => (k1.a 8 (by decide) rfl _).trans ((hA.2.1 _ (by omega)).trans (congrArg nI (by rw [hby]; unfold mBy; rw [if_pos hj]))), hY3, hY4, by omega⟩ t3 (by omega))) rfl (fun r97 M2 p97 => ?_)
        obtain ⟨rfl, rfl⟩ := p97
        have hv9 := mVv_lt hY4 i
        have hv8 : 256 ^ i ≤ 256 ^ 4 := Nat.pow_le_pow_right (by omega) (by omega)
        have hy9 := hY4 i
        refine g_i2l (q := 101) hx d_Mo_take_100 rfl (nI_l (by omega)) ?_
        refine g_ladd (q := 102) hx d_Mo_take_101 rfl (lN_add _ _) ?_
        refine g_putl (q := 105) hx d_Mo_take_102 rfl fl_Mo_152 nf_7_19 hq.g0 ?_
        refine g_iinc (q := 108) (lc' := [(4, _), (3, _), (2, _), (0, _), (1, _)]) hx d_Mo_take_105 rfl rfl (z_inc _) (by decide) rfl ?_
        refine g_goto (q := 81) hx d_Mo_take_108 rfl ?_
        exact ih (i + 1) _ (by omega) (by omega) ((k1.si rfl).sl rfl) (kt1.tr (kT.of (A := bN) (I := bGI) (L := bG19) ((kF.rf.si rfl).sl rfl) rfl rfl rfl rfl rfl rfl)) (zl_s _ _ _ _) (zi_s _ _ _ _) ((zi_k (by decide)).trans t4) ((zl_k (by decide)).trans t5) (fun p hp => (zi_a (by omega)).trans (t6 p hp))
    refine g_aload_n (q := 53) hx d_Mo_take_52 rfl rfl ?_
    refine g_cv (q := 56) (zrunV hx d_Mo_take_53 lk_Mo_122 rfl rfl hq.g0 rfl rfl (Nat.le_of_ble_eq_true rfl) (by decide) (by omega) (by omega) (c_Mo_fresh _ E Γ n _ m hq0)) rfl (fun M1 p53 => ?_)
    obtain ⟨z1, e1, e2, e3, e4, -⟩ := p53
    replace hP := z1.r
    refine g_aload_n (q := 57) hx d_Mo_take_56 rfl rfl ?_
    refine g_iload_n (q := 58) hx d_Mo_take_57 rfl rfl ?_
    refine g_iconst (q := 59) (v := nI 3) hx d_Mo_take_58 rfl (by decide) ?_
    refine g_iadd (q := 60) hx d_Mo_take_59 rfl (nI_add _ _) ?_
    refine g_puti (q := 63) hx d_Mo_take_60 rfl fl_Mo_146 nf_7_20 hq.g0 ?_
    refine g_aload_n (q := 64) hx d_Mo_take_63 rfl rfl ?_
    refine g_aload_n (q := 65) hx d_Mo_take_64 rfl rfl ?_
    refine g_geti (q := 68) hx d_Mo_take_65 rfl fl_Mo_146 hq.g0 (zi_s _ _ _ _) ?_
    refine g_iload_n (q := 69) hx d_Mo_take_68 rfl rfl ?_
    refine g_iadd (q := 70) hx d_Mo_take_69 rfl (nI_add _ _) ?_
    refine g_puti (q := 73) hx d_Mo_take_70 rfl fl_Mo_149 nf_7_21 hq.g0 ?_
    refine g_aload_n (q := 74) hx d_Mo_take_73 rfl rfl ?_
    refine g_lconst (q := 75) (v := lN 0) hx d_Mo_take_74 rfl (by decide) ?_
    refine g_putl (q := 78) hx d_Mo_take_75 rfl fl_Mo_152 nf_7_19 hq.g0 ?_
    refine g_iconst (q := 79) (v := nI 0) hx d_Mo_take_78 rfl (by decide) ?_
    refine g_istore (q := 81) (lc' := [(4, _), (3, _), (2, _), (0, _), (1, _)]) hx d_Mo_take_79 rfl (by decide) rfl ?_
    exact loop1 0 _ (Nat.zero_le _) ((((z1.mono bC_K bCI_K bCL_K).si rfl).si rfl).sl rfl) (kT.of (A := bCA) (I := bKI) (L := bKL) ((((z1.mono (zSb_rf _) bCI_K bCL_K).si rfl).si rfl).sl rfl) rfl rfl rfl rfl rfl rfl) (zl_s _ _ _ _) ((zi_k (by decide)).trans (zi_s _ _ _ _)) (zi_s _ _ _ _) ((zl_k (by decide)).trans e2) (fun p hp => (zi_a (by omega)).trans ((zi_a (by omega)).trans (e3 p hp)))
  refine g_iload_n (q := 1) hx d_Mo_take_0 rfl rfl ?_
  refine g_iconst (q := 2) (v := nI 4) hx d_Mo_take_1 rfl (by decide) ?_
  refine g_iadd (q := 3) hx d_Mo_take_2 rfl (nI_add _ _) ?_
  refine g_aload_n (q := 4) hx d_Mo_take_3 rfl rfl ?_
  refine g_geti (q := 7) hx d_Mo_take_4 rfl fl_Mo_136 hq.g0 hA.1 ?_
  refine g_icmp_lt (q := 10) (t := 12) hx d_Mo_take_7 rfl rfl (nI_ltI (by omega) (by omega)) (fun h7 => ?_) (fun h7 => ?_)
  · refine g_aload_n (q := 13) hx d_Mo_take_12 rfl rfl ?_
    refine g_geta (q := 16) hx d_Mo_take_13 rfl fl_Mo_31 hq.g0 (hq.p8 hP) (by first | exact Nat.succ_ne_zero _ | omega) ?_
    refine g_iload_n (q := 17) hx d_Mo_take_16 rfl rfl ?_
    refine g_iald (q := 18) hx d_Mo_take_17 rfl hq.g8 rfl (by omega) (by decide) ((hA.2.1 b (by omega)).trans (congrArg nI hc.symm)) ?_
    refine g_istore_n (q := 19) (lc' := [(2, _), (0, _), (1, _)]) hx d_Mo_take_18 rfl (by decide) rfl ?_
    refine g_aload_n (q := 20) hx d_Mo_take_19 rfl rfl ?_
    refine g_geta (q := 23) hx d_Mo_take_20 rfl fl_Mo_31 hq.g0 (hq.p8 hP) (by first | exact Nat.succ_ne_zero _ | omega) ?_
    refine g_iload_n (q := 24) hx d_Mo_take_23 rfl rfl ?_
    refine g_iconst (q := 25) (v := nI 2) hx d_Mo_take_24 rfl (by decide) ?_
    refine g_iadd (q := 26) hx d_Mo_take_25 rfl (nI_add _ _) ?_
    refine g_iald (q := 27) hx d_Mo_take_26 rfl hq.g8 rfl (by omega) (by decide) ((hA.2.1 (b + 2) (by omega)).trans (congrArg nI hrl.symm)) ?_
    refine g_istore_n (q := 28) (lc' := [(3, _), (2, _), (0, _), (1, _)]) hx d_Mo_take_27 rfl (by decide) rfl ?_
    refine g_iload_n (q := 29) hx d_Mo_take_28 rfl rfl ?_
    refine g_iconst (q := 30) (v := nI 1) hx d_Mo_take_29 rfl (by decide) ?_
    refine g_icmp_lt (q := 33) (t := 50) hx d_Mo_take_30 rfl rfl (nI_ltI (by omega) (by omega)) (fun h30 => ?_) (fun h30 => ?_)
    · refine g_iconst (q := 51) (v := nI 0) hx d_Mo_take_50 rfl (by decide) ?_
      exact g_iret hx d_Mo_take_51 rfl hQ ⟨Nat.le_refl _, Nat.le_refl _⟩ ⟨_, rfl, rfl, rfl, kF.rf, ⟨fun _ _ _ _ _ => rfl, fun _ _ _ _ _ => rfl⟩, Or.inr ⟨rfl, by
            unfold mTake
            rw [if_neg (by omega), if_pos (by rw [← hc, ← hrl]; omega)]⟩⟩
    · refine g_iload_n (q := 34) hx d_Mo_take_33 rfl rfl ?_
      refine g_iconst (q := 35) (v := nI 3) hx d_Mo_take_34 rfl (by decide) ?_
      refine g_icmp_gt (q := 38) (t := 50) hx d_Mo_take_35 rfl rfl (nI_ltI (by omega) (by omega)) (fun h35 => ?_) (fun h35 => ?_)
      · refine g_iconst (q := 51) (v := nI 0) hx d_Mo_take_50 rfl (by decide) ?_
        exact g_iret hx d_Mo_take_51 rfl hQ ⟨Nat.le_refl _, Nat.le_refl _⟩ ⟨_, rfl, rfl, rfl, kF.rf, ⟨fun _ _ _ _ _ => rfl, fun _ _ _ _ _ => rfl⟩, Or.inr ⟨rfl, by
              unfold mTake
              rw [if_neg (by omega), if_pos (by rw [← hc, ← hrl]; omega)]⟩⟩
      · refine g_iload_n (q := 39) hx d_Mo_take_38 rfl rfl ?_
        refine g_iconst (q := 40) (v := nI 5) hx d_Mo_take_39 rfl (by decide) ?_
        refine g_iadd (q := 41) hx d_Mo_take_40 rfl (nI_add _ _) ?_
        refine g_iload_n (q := 42) hx d_Mo_take_41 rfl rfl ?_
        refine g_iadd (q := 43) hx d_Mo_take_42 rfl (nI_add _ _) ?_
        refine g_aload_n (q := 44) hx d_Mo_take_43 rfl rfl ?_
        refine g_geti (q := 47) hx d_Mo_take_44 rfl fl_Mo_136 hq.g0 hA.1 ?_
        refine g_icmp_le (q := 50) (t := 52) hx d_Mo_take_47 rfl rfl (nI_leI (by omega) (by omega)) (fun h47 => ?_) (fun h47 => ?_)
        · have hT : mTake ref len arch size b = match mTs by_ ref len c (arch (b + 1)) (mD0 by_) with
            | none => none
            | some rs => if mBl ref rs = 5 + rl ∧ mSame (mBlk ref rs) (fun j => arch (b + j)) (5 + rl) = true then some rs else none := by
            unfold mTake
            rw [if_neg (by omega), if_neg (by rw [← hc, ← hrl]; omega), ← hc, ← hrl, hby]
            try rfl
          exact road hT (by omega) (by omega) (by omega)
        · refine g_iconst (q := 51) (v := nI 0) hx d_Mo_take_50 rfl (by decide) ?_
          exact g_iret hx d_Mo_take_51 rfl hQ ⟨Nat.le_refl _, Nat.le_refl _⟩ ⟨_, rfl, rfl, rfl, kF.rf, ⟨fun _ _ _ _ _ => rfl, fun _ _ _ _ _ => rfl⟩, Or.inr ⟨rfl, by
                unfold mTake
                rw [if_neg (by omega), if_pos (by rw [← hc, ← hrl]; omega)]⟩⟩
  · refine g_iconst (q := 11) (v := nI 0) hx d_Mo_take_10 rfl (by decide) ?_
    exact g_iret hx d_Mo_take_11 rfl hQ ⟨Nat.le_refl _, Nat.le_refl _⟩ ⟨_, rfl, rfl, rfl, kF.rf, ⟨fun _ _ _ _ _ => rfl, fun _ _ _ _ _ => rfl⟩, Or.inr ⟨rfl, by unfold mTake; rw [if_pos (by omega)]⟩⟩
