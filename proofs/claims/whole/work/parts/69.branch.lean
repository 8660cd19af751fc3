/-! the law's branches -/
section ZL
variable {f : zF} {E : zE} {Y : zY} {d : Nat} {kk : Nat × Nat} {Γ : zG} {n : Nat} {k : Nat × Nat} {M : zM} {pc q : Nat} {lc : List (Nat × Value)} {st : List Value}
/-- the script, which was there before -/
def zX0 (f : zF) (E : zE) (b L : Nat) (xs : Nat → Int32) : Prop := va_X b L xs (zs f.1) (zs f.1).heap ∧ b < (zs f.1).heap.size ∧ ¬ zA E b ∧ L ≤ 2048
theorem g_sld {b L : Nat} {xs : Nat → Int32} {i : Int32} (j : Nat) (hx : zOk f E Y d kk) (hX : zX0 f E b L xs) (hd : decode Y.2.1 pc = .ok (.iaload, 1)) (hq : pc + 1 = q) (hi : i = nI j) (hj : j < L) (kk9 : zGo f E Γ n k M q lc (.int (xs j) :: st)) : zGo f E Γ n k M pc lc (.int i :: .ref b :: st) := by
  obtain ⟨⟨p, l, e, R, s, m, args, below, meth, c0⟩, nL, Q⟩ := f
  subst hq; subst hi
  intro H locs ls hz hR hS hl
  have K := kk9 H locs ls hz hR hS hl
  have hL := hX.2.2.2
  obtain ⟨hexec, hb, -⟩ := hx
  refine va_sld hexec hb hX.1 hX.2.1 hX.2.2.1 hS (nI_in hj (by omega)) hd ?_
  rw [nI_clamp (by omega)]
  exact K
theorem g_slen {b L : Nat} {xs : Nat → Int32} (hx : zOk f E Y d kk) (hX : zX0 f E b L xs) (hd : decode Y.2.1 pc = .ok (.arraylength, 1)) (hq : pc + 1 = q) (kk9 : zGo f E Γ n k M q lc (.int (nI L) :: st)) : zGo f E Γ n k M pc lc (.ref b :: st) := by
  obtain ⟨⟨p, l, e, R, s, m, args, below, meth, c0⟩, nL, Q⟩ := f
  subst hq
  intro H locs ls hz hR hS hl
  have K := kk9 H locs ls hz hR hS hl
  obtain ⟨hexec, hb, -⟩ := hx
  exact va_slen hexec hb hX.1 hX.2.1 hX.2.2.1 hS hd K
end ZL
theorem qX.cg {Γ : zG} {Q Q' : Nat → Nat → Nat} {m : Nat} (h : qX Γ Q m) (h9 : Q' m = Q m) : qX Γ Q' m := by
  unfold qX at h ⊢; rw [h9]; exact h
def lI (Γ : zG) (x m : Nat) (M : zM) (V : sV) : Prop := PI Γ M x V ∧ qX Γ M.2.2 m ∧ QI M m V
/-- where the law's objects lie -/
def lG (Γ : zG) (x m o : Nat) : Prop := Γ x = some (0, 6) ∧ Γ o = some (2, 1) ∧ m = x + 142 ∧ o = x + 155
theorem lI.a {Γ : zG} {x m o : Nat} {M M1 : zM} {V : sV} (h : lI Γ x m M V) (hG : lG Γ x m o) (hk : kY x o M M1) : qX Γ M1.2.2 m ∧ QI M1 m V := by
  obtain ⟨-, -, rfl, rfl⟩ := hG
  exact ⟨h.2.1.cg (hk _ (by omega) (by omega)).2.2, qI.cg (M := M) (fun a h1 h2 => (hk a (by omega) (by omega)).1) h.2.2⟩
theorem lI.b {Γ : zG} {x m o : Nat} {M1 M2 : zM} {V : sV} (hG : lG Γ x m o) (hP : PI Γ M1 x V) (hq : qX Γ M1.2.2 m) (hk : kM m M1 M2) (hQ : QI M2 m V) : lI Γ x m M2 V := by
  obtain ⟨-, -, rfl, rfl⟩ := hG
  exact ⟨pI.cg (M := M1) hP (fun b h1 h2 => ⟨(hk.2 b (by omega)).1, by rw [hk.1]⟩), by rw [hk.1]; exact hq, hQ⟩
theorem kM.o {x m o : Nat} {Γ : zG} {M1 M2 : zM} (hG : lG Γ x m o) (hk : kM m M1 M2) (j : Nat) : zl M2 o j = zl M1 o j := by
  obtain ⟨-, -, rfl, rfl⟩ := hG
  show M2.2.1 _ j = M1.2.1 _ j
  rw [(hk.2 _ (by omega)).2]
theorem lg_cmp_self (a : Int64) : lg_cmp a a = 0 := by
  unfold lg_cmp
  rw [if_neg (by simp), if_pos rfl]
/-- the law's place at a step, and what follows it -/
def lN9 (f : zF) (E : zE) (Γ : zG) (x m : Nat) (k : Nat × Nat) (lc : List (Nat × Value)) : Prop := ∀ (n' : Nat) (k' : Nat × Nat) (M' : zM) (V' : sV), lI Γ x m M' V' → k'.1 ≤ k.1 + 1 → k'.2 ≤ k.2 + 6 → zGo f E Γ n' k' M' 807 lc []
set_option maxHeartbeats 4000000 in
set_option maxRecDepth 100000 in
theorem l_refer {f : zF} {E : zE} {kk : Nat × Nat} (hx : zOk f E Y_La_law 9 kk) (hl : (zll f.1).stackTraces = false) {b L : Nat} {xs : Nat → Int32} (hX : zX0 f E b L xs) {Γ : zG} {x m o : Nat} (hG : lG Γ x m o) (n : Nat) (k : Nat × Nat) (M : zM) (V : sV) (hI : lI Γ x m M V) (i : Nat) (hi : i + 4 ≤ L) (hk1 : k.1 + 1 ≤ kk.1) (hk2 : k.2 + 6 ≤ kk.2) (kk9 : lN9 f E Γ x m k [(4, .int (nI i)), (3, .ref o), (2, .ref m), (1, .ref x), (0, .ref b)]) : zGo f E Γ n k M 112 [(4, .int (nI i)), (3, .ref o), (2, .ref m), (1, .ref x), (0, .ref b)] [] := by
  have hL := hX.2.2.2
  refine g_aload_n (q := 113) hx d_La_law_112 rfl rfl ?_
  refine g_aload_n (q := 114) hx d_La_law_113 rfl rfl ?_
  refine g_iload (q := 116) hx d_La_law_114 rfl rfl ?_
  refine g_iconst (q := 117) (v := nI 1) hx d_La_law_116 rfl (by decide) ?_
  refine g_iadd (q := 118) hx d_La_law_117 rfl (nI_add _ _) ?_
  refine g_sld (q := 119) (i + 1) hx hX d_La_law_118 rfl rfl (by omega) ?_
  refine g_aload_n (q := 120) hx d_La_law_119 rfl rfl ?_
  refine g_iload (q := 122) hx d_La_law_120 rfl rfl ?_
  refine g_iconst (q := 123) (v := nI 2) hx d_La_law_122 rfl (by decide) ?_
  refine g_iadd (q := 124) hx d_La_law_123 rfl (nI_add _ _) ?_
  refine g_sld (q := 125) (i + 2) hx hX d_La_law_124 rfl rfl (by omega) ?_
  refine g_aload_n (q := 126) hx d_La_law_125 rfl rfl ?_
  obtain ⟨cd, r, V', hcd, ⟨δ, e, hδ1, hδ2, hA⟩, ⟨d9, hd9, hB⟩⟩ := o_refer (zll f.1) hl E Γ x m o V hI.1.o hG.1 hG.2.1 (xs (i + 1)) (xs (i + 2))
  refine g_cik (q := 129) (zrunW hx d_La_law_126 lw_La_57 rfl rfl (Nat.le_of_ble_eq_true rfl) (by decide) (by first | omega | (dsimp only; omega)) (by first | omega | (dsimp only; omega)) (hA n _ hI.1)) rfl (fun r5 M1 p1 => ?_)
  obtain ⟨rfl, hk3, hP1, ho1⟩ := p1
  obtain ⟨hq1, hQ1⟩ := hI.a hG hk3
  refine g_istore (q := 131) (lc' := [(5, _), (4, _), (3, _), (2, _), (1, _), (0, _)]) hx d_La_law_129 rfl (by decide) rfl ?_
  refine g_aload_n (q := 132) hx d_La_law_131 rfl rfl ?_
  refine g_aload_n (q := 133) hx d_La_law_132 rfl rfl ?_
  refine g_iload (q := 135) hx d_La_law_133 rfl rfl ?_
  refine g_iconst (q := 136) (v := nI 1) hx d_La_law_135 rfl (by decide) ?_
  refine g_iadd (q := 137) hx d_La_law_136 rfl (nI_add _ _) ?_
  refine g_sld (q := 138) (i + 1) hx hX d_La_law_137 rfl rfl (by omega) ?_
  refine g_aload_n (q := 139) hx d_La_law_138 rfl rfl ?_
  refine g_iload (q := 141) hx d_La_law_139 rfl rfl ?_
  refine g_iconst (q := 142) (v := nI 2) hx d_La_law_141 rfl (by decide) ?_
  refine g_iadd (q := 143) hx d_La_law_142 rfl (nI_add _ _) ?_
  refine g_sld (q := 144) (i + 2) hx hX d_La_law_143 rfl rfl (by omega) ?_
  refine g_ci (q := 147) (zrunV hx d_La_law_144 lk_La_62 rfl rfl hq1.g0 rfl rfl (Nat.le_of_ble_eq_true rfl) (by omega) (by first | omega | (dsimp only; omega)) (by first | omega | (dsimp only; omega)) (hB _ _ hq1 hQ1)) rfl (fun r6 M2 p2 => ?_)
  obtain ⟨hv2, ht2, hkm, hQ2⟩ := p2
  have hq2 : qX Γ M2.2.2 m := by rw [hkm.1]; exact hq1
  refine g_istore (q := 149) (lc' := [(6, _), (5, _), (4, _), (3, _), (2, _), (1, _), (0, _)]) hx d_La_law_147 rfl (by decide) rfl ?_
  refine g_aload_n (q := 150) hx d_La_law_149 rfl rfl ?_
  refine g_ci (q := 153) (zrunV hx d_La_law_150 lk_La_63 rfl rfl hq2.g0 rfl rfl (Nat.le_of_ble_eq_true rfl) (by decide) (by first | omega | (dsimp only; omega)) (by first | omega | (dsimp only; omega)) (c_Mo_thrown _ E Γ _ _ m hq2)) rfl (fun r7 M3 p3 => ?_)
  obtain ⟨rfl, e3⟩ := p3
  subst e3
  refine g_iload (q := 155) hx d_La_law_153 rfl rfl ?_
  refine g_icmp_eq (q := 158) (t := 160) hx d_La_law_155 rfl rfl Iff.rfl (fun h155 => ?_) (fun h155 => ?_)
  · refine g_iload (q := 162) hx d_La_law_160 rfl rfl ?_
    refine g_if_ne (q := 165) (t := 177) hx d_La_law_162 rfl rfl (zb_ne0 (by omega)) (fun h162 => ?_) (fun h162 => ?_)
    · refine g_goto (q := 807) hx d_La_law_177 rfl ?_
      refine z_perm (lc' := [(4, .int (nI i)), (3, .ref o), (2, .ref m), (1, .ref x), (0, .ref b)]) (fun q hq => by simp only [List.mem_cons, List.not_mem_nil, or_false] at hq ⊢; rcases hq with h | h | h | h | h <;> simp [h]) ?_
      exact kk9 _ _ _ V' (lI.b hG hP1 hq1 hkm hQ2) (by first | omega | (dsimp only; omega)) (by first | omega | (dsimp only; omega))
    · have hcd0 : cd = 0 := Decidable.byContradiction h162
      refine g_aload_n (q := 166) hx d_La_law_165 rfl rfl ?_
      refine g_iconst (q := 167) (v := nI 0) hx d_La_law_166 rfl (by decide) ?_
      refine g_lald (q := 168) (x := r.toInt64) hx d_La_law_167 rfl hG.2.1 rfl (by decide) (by decide) ((hkm.o hG 0).trans (ho1 hcd0)) ?_
      refine g_iload (q := 170) hx d_La_law_168 rfl rfl ?_
      refine g_i2l (q := 171) hx d_La_law_170 rfl rfl ?_
      refine g_lcmp (q := 172) hx d_La_law_171 rfl ?_
      refine g_if_eq (q := 175) (t := 177) hx d_La_law_172 rfl rfl Iff.rfl (fun h172 => ?_) (fun h172 => ?_)
      · refine g_goto (q := 807) hx d_La_law_177 rfl ?_
        refine z_perm (lc' := [(4, .int (nI i)), (3, .ref o), (2, .ref m), (1, .ref x), (0, .ref b)]) (fun q hq => by simp only [List.mem_cons, List.not_mem_nil, or_false] at hq ⊢; rcases hq with h | h | h | h | h <;> simp [h]) ?_
        exact kk9 _ _ _ V' (lI.b hG hP1 hq1 hkm hQ2) (by first | omega | (dsimp only; omega)) (by first | omega | (dsimp only; omega))
      · exact absurd (by rw [hv2 hcd0]; exact lg_cmp_self _) h172
  · exact absurd ht2 h155
set_option maxHeartbeats 4000000 in
set_option maxRecDepth 100000 in
theorem l_start {f : zF} {E : zE} {kk : Nat × Nat} (hx : zOk f E Y_La_law 9 kk) (hl : (zll f.1).stackTraces = false) {b L : Nat} {xs : Nat → Int32} (hX : zX0 f E b L xs) {Γ : zG} {x m o : Nat} (hG : lG Γ x m o) (n : Nat) (k : Nat × Nat) (M : zM) (V : sV) (hI : lI Γ x m M V) (i : Nat) (hi : i + 4 ≤ L) (hk1 : k.1 + 1 ≤ kk.1) (hk2 : k.2 + 6 ≤ kk.2) (kk9 : lN9 f E Γ x m k [(4, .int (nI i)), (3, .ref o), (2, .ref m), (1, .ref x), (0, .ref b)]) : zGo f E Γ n k M 219 [(4, .int (nI i)), (3, .ref o), (2, .ref m), (1, .ref x), (0, .ref b)] [] := by
  have hL := hX.2.2.2
  refine g_aload_n (q := 220) hx d_La_law_219 rfl rfl ?_
  refine g_aload_n (q := 221) hx d_La_law_220 rfl rfl ?_
  refine g_iload (q := 223) hx d_La_law_221 rfl rfl ?_
  refine g_iconst (q := 224) (v := nI 1) hx d_La_law_223 rfl (by decide) ?_
  refine g_iadd (q := 225) hx d_La_law_224 rfl (nI_add _ _) ?_
  refine g_sld (q := 226) (i + 1) hx hX d_La_law_225 rfl rfl (by omega) ?_
  obtain ⟨cd, V', hcd, ⟨δ, e, hδ1, hδ2, hA⟩, ⟨d9, hd9, hB⟩⟩ := o_start (zll f.1) hl E Γ x m o V hI.1.o hG.1 (xs (i + 1))
  refine g_cik (q := 229) (zrunW hx d_La_law_226 lw_La_71 rfl rfl (Nat.le_of_ble_eq_true rfl) (by decide) (by first | omega | (dsimp only; omega)) (by first | omega | (dsimp only; omega)) (hA n _ hI.1)) rfl (fun r5 M1 p1 => ?_)
  obtain ⟨rfl, hk3, hP1⟩ := p1
  obtain ⟨hq1, hQ1⟩ := hI.a hG hk3
  refine g_istore (q := 231) (lc' := [(5, _), (4, _), (3, _), (2, _), (1, _), (0, _)]) hx d_La_law_229 rfl (by decide) rfl ?_
  refine g_aload_n (q := 232) hx d_La_law_231 rfl rfl ?_
  refine g_aload_n (q := 233) hx d_La_law_232 rfl rfl ?_
  refine g_iload (q := 235) hx d_La_law_233 rfl rfl ?_
  refine g_iconst (q := 236) (v := nI 1) hx d_La_law_235 rfl (by decide) ?_
  refine g_iadd (q := 237) hx d_La_law_236 rfl (nI_add _ _) ?_
  refine g_sld (q := 238) (i + 1) hx hX d_La_law_237 rfl rfl (by omega) ?_
  refine g_cv (q := 241) (zrunV hx d_La_law_238 lk_La_74 rfl rfl hq1.g0 rfl rfl (Nat.le_of_ble_eq_true rfl) (by omega) (by first | omega | (dsimp only; omega)) (by first | omega | (dsimp only; omega)) (hB _ _ hq1 hQ1)) rfl (fun M2 p2 => ?_)
  obtain ⟨ht2, hkm, hQ2⟩ := p2
  have hq2 : qX Γ M2.2.2 m := by rw [hkm.1]; exact hq1
  refine g_aload_n (q := 242) hx d_La_law_241 rfl rfl ?_
  refine g_ci (q := 245) (zrunV hx d_La_law_242 lk_La_63 rfl rfl hq2.g0 rfl rfl (Nat.le_of_ble_eq_true rfl) (by decide) (by first | omega | (dsimp only; omega)) (by first | omega | (dsimp only; omega)) (c_Mo_thrown _ E Γ _ _ m hq2)) rfl (fun r7 M3 p3 => ?_)
  obtain ⟨rfl, e3⟩ := p3
  subst e3
  refine g_iload (q := 247) hx d_La_law_245 rfl rfl ?_
  refine g_icmp_eq (q := 250) (t := 252) hx d_La_law_247 rfl rfl Iff.rfl (fun h247 => ?_) (fun h247 => ?_)
  · refine g_goto (q := 807) hx d_La_law_252 rfl ?_
    refine z_perm (lc' := [(4, .int (nI i)), (3, .ref o), (2, .ref m), (1, .ref x), (0, .ref b)]) (fun q hq => by simp only [List.mem_cons, List.not_mem_nil, or_false] at hq ⊢; rcases hq with h | h | h | h | h <;> simp [h]) ?_
    exact kk9 _ _ _ V' (lI.b hG hP1 hq1 hkm hQ2) (by first | omega | (dsimp only; omega)) (by first | omega | (dsimp only; omega))
  · exact absurd ht2 h247
set_option maxHeartbeats 4000000 in
set_option maxRecDepth 100000 in
theorem l_edit {f : zF} {E : zE} {kk : Nat × Nat} (hx : zOk f E Y_La_law 9 kk) (hl : (zll f.1).stackTraces = false) {b L : Nat} {xs : Nat → Int32} (hX : zX0 f E b L xs) {Γ : zG} {x m o : Nat} (hG : lG Γ x m o) (n : Nat) (k : Nat × Nat) (M : zM) (V : sV) (hI : lI Γ x m M V) (i : Nat) (hi : i + 4 ≤ L) (hk1 : k.1 + 1 ≤ kk.1) (hk2 : k.2 + 6 ≤ kk.2) (kk9 : lN9 f E Γ x m k [(4, .int (nI i)), (3, .ref o), (2, .ref m), (1, .ref x), (0, .ref b)]) : zGo f E Γ n k M 255 [(4, .int (nI i)), (3, .ref o), (2, .ref m), (1, .ref x), (0, .ref b)] [] := by
  have hL := hX.2.2.2
  refine g_aload_n (q := 256) hx d_La_law_255 rfl rfl ?_
  refine g_aload_n (q := 257) hx d_La_law_256 rfl rfl ?_
  refine g_iload (q := 259) hx d_La_law_257 rfl rfl ?_
  refine g_iconst (q := 260) (v := nI 1) hx d_La_law_259 rfl (by decide) ?_
  refine g_iadd (q := 261) hx d_La_law_260 rfl (nI_add _ _) ?_
  refine g_sld (q := 262) (i + 1) hx hX d_La_law_261 rfl rfl (by omega) ?_
  refine g_aload_n (q := 263) hx d_La_law_262 rfl rfl ?_
  refine g_iload (q := 265) hx d_La_law_263 rfl rfl ?_
  refine g_iconst (q := 266) (v := nI 2) hx d_La_law_265 rfl (by decide) ?_
  refine g_iadd (q := 267) hx d_La_law_266 rfl (nI_add _ _) ?_
  refine g_sld (q := 268) (i + 2) hx hX d_La_law_267 rfl rfl (by omega) ?_
  obtain ⟨cd, V', hcd, ⟨δ, e, hδ1, hδ2, hA⟩, ⟨d9, hd9, hB⟩⟩ := o_edit (zll f.1) hl E Γ x m o V hI.1.o hG.1 (xs (i + 1)) (xs (i + 2))
  refine g_cik (q := 271) (zrunW hx d_La_law_268 lw_La_75 rfl rfl (Nat.le_of_ble_eq_true rfl) (by decide) (by first | omega | (dsimp only; omega)) (by first | omega | (dsimp only; omega)) (hA n _ hI.1)) rfl (fun r5 M1 p1 => ?_)
  obtain ⟨rfl, hk3, hP1⟩ := p1
  obtain ⟨hq1, hQ1⟩ := hI.a hG hk3
  refine g_istore (q := 273) (lc' := [(5, _), (4, _), (3, _), (2, _), (1, _), (0, _)]) hx d_La_law_271 rfl (by decide) rfl ?_
  refine g_aload_n (q := 274) hx d_La_law_273 rfl rfl ?_
  refine g_aload_n (q := 275) hx d_La_law_274 rfl rfl ?_
  refine g_iload (q := 277) hx d_La_law_275 rfl rfl ?_
  refine g_iconst (q := 278) (v := nI 1) hx d_La_law_277 rfl (by decide) ?_
  refine g_iadd (q := 279) hx d_La_law_278 rfl (nI_add _ _) ?_
  refine g_sld (q := 280) (i + 1) hx hX d_La_law_279 rfl rfl (by omega) ?_
  refine g_aload_n (q := 281) hx d_La_law_280 rfl rfl ?_
  refine g_iload (q := 283) hx d_La_law_281 rfl rfl ?_
  refine g_iconst (q := 284) (v := nI 2) hx d_La_law_283 rfl (by decide) ?_
  refine g_iadd (q := 285) hx d_La_law_284 rfl (nI_add _ _) ?_
  refine g_sld (q := 286) (i + 2) hx hX d_La_law_285 rfl rfl (by omega) ?_
  refine g_cv (q := 289) (zrunV hx d_La_law_286 lk_La_78 rfl rfl hq1.g0 rfl rfl (Nat.le_of_ble_eq_true rfl) (by omega) (by first | omega | (dsimp only; omega)) (by first | omega | (dsimp only; omega)) (hB _ _ hq1 hQ1)) rfl (fun M2 p2 => ?_)
  obtain ⟨ht2, hkm, hQ2⟩ := p2
  have hq2 : qX Γ M2.2.2 m := by rw [hkm.1]; exact hq1
  refine g_aload_n (q := 290) hx d_La_law_289 rfl rfl ?_
  refine g_ci (q := 293) (zrunV hx d_La_law_290 lk_La_63 rfl rfl hq2.g0 rfl rfl (Nat.le_of_ble_eq_true rfl) (by decide) (by first | omega | (dsimp only; omega)) (by first | omega | (dsimp only; omega)) (c_Mo_thrown _ E Γ _ _ m hq2)) rfl (fun r7 M3 p3 => ?_)
  obtain ⟨rfl, e3⟩ := p3
  subst e3
  refine g_iload (q := 295) hx d_La_law_293 rfl rfl ?_
  refine g_icmp_eq (q := 298) (t := 300) hx d_La_law_295 rfl rfl Iff.rfl (fun h295 => ?_) (fun h295 => ?_)
  · refine g_goto (q := 807) hx d_La_law_300 rfl ?_
    refine z_perm (lc' := [(4, .int (nI i)), (3, .ref o), (2, .ref m), (1, .ref x), (0, .ref b)]) (fun q hq => by simp only [List.mem_cons, List.not_mem_nil, or_false] at hq ⊢; rcases hq with h | h | h | h | h <;> simp [h]) ?_
    exact kk9 _ _ _ V' (lI.b hG hP1 hq1 hkm hQ2) (by first | omega | (dsimp only; omega)) (by first | omega | (dsimp only; omega))
  · exact absurd ht2 h295
set_option maxHeartbeats 4000000 in
set_option maxRecDepth 100000 in
theorem l_finish {f : zF} {E : zE} {kk : Nat × Nat} (hx : zOk f E Y_La_law 9 kk) (hl : (zll f.1).stackTraces = false) {b L : Nat} {xs : Nat → Int32} (hX : zX0 f E b L xs) {Γ : zG} {x m o : Nat} (hG : lG Γ x m o) (n : Nat) (k : Nat × Nat) (M : zM) (V : sV) (hI : lI Γ x m M V) (i : Nat) (hi : i + 4 ≤ L) (hk1 : k.1 + 1 ≤ kk.1) (hk2 : k.2 + 6 ≤ kk.2) (kk9 : lN9 f E Γ x m k [(4, .int (nI i)), (3, .ref o), (2, .ref m), (1, .ref x), (0, .ref b)]) : zGo f E Γ n k M 303 [(4, .int (nI i)), (3, .ref o), (2, .ref m), (1, .ref x), (0, .ref b)] [] := by
  have hL := hX.2.2.2
  refine g_aload_n (q := 304) hx d_La_law_303 rfl rfl ?_
  refine g_aload_n (q := 305) hx d_La_law_304 rfl rfl ?_
  obtain ⟨cd, r, V', hcd, ⟨δ, e, hδ1, hδ2, hA⟩, ⟨d9, hd9, hB⟩⟩ := o_finish (zll f.1) hl E Γ x m o V hI.1.o hG.1 hG.2.1 
  refine g_cik (q := 308) (zrunW hx d_La_law_305 lw_La_79 rfl rfl (Nat.le_of_ble_eq_true rfl) (by decide) (by first | omega | (dsimp only; omega)) (by first | omega | (dsimp only; omega)) (hA n _ hI.1)) rfl (fun r5 M1 p1 => ?_)
  obtain ⟨rfl, hk3, hP1, ho1⟩ := p1
  obtain ⟨hq1, hQ1⟩ := hI.a hG hk3
  refine g_istore (q := 310) (lc' := [(5, _), (4, _), (3, _), (2, _), (1, _), (0, _)]) hx d_La_law_308 rfl (by decide) rfl ?_
  refine g_aload_n (q := 311) hx d_La_law_310 rfl rfl ?_
  refine g_ci (q := 314) (zrunV hx d_La_law_311 lk_La_82 rfl rfl hq1.g0 rfl rfl (Nat.le_of_ble_eq_true rfl) (by omega) (by first | omega | (dsimp only; omega)) (by first | omega | (dsimp only; omega)) (hB _ _ hq1 hQ1)) rfl (fun r6 M2 p2 => ?_)
  obtain ⟨hv2, ht2, hkm, hQ2⟩ := p2
  have hq2 : qX Γ M2.2.2 m := by rw [hkm.1]; exact hq1
  refine g_istore (q := 316) (lc' := [(6, _), (5, _), (4, _), (3, _), (2, _), (1, _), (0, _)]) hx d_La_law_314 rfl (by decide) rfl ?_
  refine g_aload_n (q := 317) hx d_La_law_316 rfl rfl ?_
  refine g_ci (q := 320) (zrunV hx d_La_law_317 lk_La_63 rfl rfl hq2.g0 rfl rfl (Nat.le_of_ble_eq_true rfl) (by decide) (by first | omega | (dsimp only; omega)) (by first | omega | (dsimp only; omega)) (c_Mo_thrown _ E Γ _ _ m hq2)) rfl (fun r7 M3 p3 => ?_)
  obtain ⟨rfl, e3⟩ := p3
  subst e3
  refine g_iload (q := 322) hx d_La_law_320 rfl rfl ?_
  refine g_icmp_eq (q := 325) (t := 327) hx d_La_law_322 rfl rfl Iff.rfl (fun h322 => ?_) (fun h322 => ?_)
  · refine g_iload (q := 329) hx d_La_law_327 rfl rfl ?_
    refine g_if_ne (q := 332) (t := 344) hx d_La_law_329 rfl rfl (zb_ne0 (by omega)) (fun h329 => ?_) (fun h329 => ?_)
    · refine g_goto (q := 807) hx d_La_law_344 rfl ?_
      refine z_perm (lc' := [(4, .int (nI i)), (3, .ref o), (2, .ref m), (1, .ref x), (0, .ref b)]) (fun q hq => by simp only [List.mem_cons, List.not_mem_nil, or_false] at hq ⊢; rcases hq with h | h | h | h | h <;> simp [h]) ?_
      exact kk9 _ _ _ V' (lI.b hG hP1 hq1 hkm hQ2) (by first | omega | (dsimp only; omega)) (by first | omega | (dsimp only; omega))
    · have hcd0 : cd = 0 := Decidable.byContradiction h329
      refine g_aload_n (q := 333) hx d_La_law_332 rfl rfl ?_
      refine g_iconst (q := 334) (v := nI 0) hx d_La_law_333 rfl (by decide) ?_
      refine g_lald (q := 335) (x := r.toInt64) hx d_La_law_334 rfl hG.2.1 rfl (by decide) (by decide) ((hkm.o hG 0).trans (ho1 hcd0)) ?_
      refine g_iload (q := 337) hx d_La_law_335 rfl rfl ?_
      refine g_i2l (q := 338) hx d_La_law_337 rfl rfl ?_
      refine g_lcmp (q := 339) hx d_La_law_338 rfl ?_
      refine g_if_eq (q := 342) (t := 344) hx d_La_law_339 rfl rfl Iff.rfl (fun h339 => ?_) (fun h339 => ?_)
      · refine g_goto (q := 807) hx d_La_law_344 rfl ?_
        refine z_perm (lc' := [(4, .int (nI i)), (3, .ref o), (2, .ref m), (1, .ref x), (0, .ref b)]) (fun q hq => by simp only [List.mem_cons, List.not_mem_nil, or_false] at hq ⊢; rcases hq with h | h | h | h | h <;> simp [h]) ?_
        exact kk9 _ _ _ V' (lI.b hG hP1 hq1 hkm hQ2) (by first | omega | (dsimp only; omega)) (by first | omega | (dsimp only; omega))
      · exact absurd (by rw [hv2 hcd0]; exact lg_cmp_self _) h339
  · exact absurd ht2 h322
set_option maxHeartbeats 4000000 in
set_option maxRecDepth 100000 in
theorem l_about {f : zF} {E : zE} {kk : Nat × Nat} (hx : zOk f E Y_La_law 9 kk) (hl : (zll f.1).stackTraces = false) {b L : Nat} {xs : Nat → Int32} (hX : zX0 f E b L xs) {Γ : zG} {x m o : Nat} (hG : lG Γ x m o) (n : Nat) (k : Nat × Nat) (M : zM) (V : sV) (hI : lI Γ x m M V) (i : Nat) (hi : i + 4 ≤ L) (hk1 : k.1 + 1 ≤ kk.1) (hk2 : k.2 + 6 ≤ kk.2) (kk9 : lN9 f E Γ x m k [(4, .int (nI i)), (3, .ref o), (2, .ref m), (1, .ref x), (0, .ref b)]) : zGo f E Γ n k M 360 [(4, .int (nI i)), (3, .ref o), (2, .ref m), (1, .ref x), (0, .ref b)] [] := by
  have hL := hX.2.2.2
  by_cases hz : xs (i + 3) = 0
  · refine g_aload_n (q := 361) hx d_La_law_360 rfl rfl ?_
    refine g_aload_n (q := 362) hx d_La_law_361 rfl rfl ?_
    refine g_iload (q := 364) hx d_La_law_362 rfl rfl ?_
    refine g_iconst (q := 365) (v := nI 1) hx d_La_law_364 rfl (by decide) ?_
    refine g_iadd (q := 366) hx d_La_law_365 rfl (nI_add _ _) ?_
    refine g_sld (q := 367) (i + 1) hx hX d_La_law_366 rfl rfl (by omega) ?_
    refine g_aload_n (q := 368) hx d_La_law_367 rfl rfl ?_
    refine g_iload (q := 370) hx d_La_law_368 rfl rfl ?_
    refine g_iconst (q := 371) (v := nI 2) hx d_La_law_370 rfl (by decide) ?_
    refine g_iadd (q := 372) hx d_La_law_371 rfl (nI_add _ _) ?_
    refine g_sld (q := 373) (i + 2) hx hX d_La_law_372 rfl rfl (by omega) ?_
    refine g_aload_n (q := 374) hx d_La_law_373 rfl rfl ?_
    refine g_iload (q := 376) hx d_La_law_374 rfl rfl ?_
    refine g_iconst (q := 377) (v := nI 3) hx d_La_law_376 rfl (by decide) ?_
    refine g_iadd (q := 378) hx d_La_law_377 rfl (nI_add _ _) ?_
    refine g_sld (q := 379) (i + 3) hx hX d_La_law_378 rfl rfl (by omega) ?_
    refine g_if_eq (q := 382) (t := 386) hx d_La_law_379 rfl rfl Iff.rfl (fun h379 => ?_) (fun h379 => ?_)
    · refine g_iconst (q := 387) (v := nI 0) hx d_La_law_386 rfl (by decide) ?_
      refine g_aload_n (q := 388) hx d_La_law_387 rfl rfl ?_
      obtain ⟨cd, r, V', hcd, ⟨δ, e, hδ1, hδ2, hA⟩, ⟨d9, hd9, hB⟩⟩ := o_about (zll f.1) hl E Γ x m o V hI.1.o hG.1 hG.2.1 (xs (i + 1)) (xs (i + 2)) (nI 0)
      refine g_cik (q := 391) (zrunW hx d_La_law_388 lw_La_87 rfl rfl (Nat.le_of_ble_eq_true rfl) (by decide) (by first | omega | (dsimp only; omega)) (by first | omega | (dsimp only; omega)) (hA n _ hI.1)) rfl (fun r5 M1 p1 => ?_)
      obtain ⟨rfl, hk3, hP1, ho1⟩ := p1
      obtain ⟨hq1, hQ1⟩ := hI.a hG hk3
      refine g_istore (q := 393) (lc' := [(5, _), (4, _), (3, _), (2, _), (1, _), (0, _)]) hx d_La_law_391 rfl (by decide) rfl ?_
      refine g_aload_n (q := 394) hx d_La_law_393 rfl rfl ?_
      refine g_aload_n (q := 395) hx d_La_law_394 rfl rfl ?_
      refine g_iload (q := 397) hx d_La_law_395 rfl rfl ?_
      refine g_iconst (q := 398) (v := nI 1) hx d_La_law_397 rfl (by decide) ?_
      refine g_iadd (q := 399) hx d_La_law_398 rfl (nI_add _ _) ?_
      refine g_sld (q := 400) (i + 1) hx hX d_La_law_399 rfl rfl (by omega) ?_
      refine g_aload_n (q := 401) hx d_La_law_400 rfl rfl ?_
      refine g_iload (q := 403) hx d_La_law_401 rfl rfl ?_
      refine g_iconst (q := 404) (v := nI 2) hx d_La_law_403 rfl (by decide) ?_
      refine g_iadd (q := 405) hx d_La_law_404 rfl (nI_add _ _) ?_
      refine g_sld (q := 406) (i + 2) hx hX d_La_law_405 rfl rfl (by omega) ?_
      refine g_aload_n (q := 407) hx d_La_law_406 rfl rfl ?_
      refine g_iload (q := 409) hx d_La_law_407 rfl rfl ?_
      refine g_iconst (q := 410) (v := nI 3) hx d_La_law_409 rfl (by decide) ?_
      refine g_iadd (q := 411) hx d_La_law_410 rfl (nI_add _ _) ?_
      refine g_sld (q := 412) (i + 3) hx hX d_La_law_411 rfl rfl (by omega) ?_
      refine g_if_eq (q := 415) (t := 419) hx d_La_law_412 rfl rfl Iff.rfl (fun h412 => ?_) (fun h412 => ?_)
      · refine g_iconst (q := 420) (v := nI 0) hx d_La_law_419 rfl (by decide) ?_
        refine g_ci (q := 423) (zrunV hx d_La_law_420 lk_La_90 rfl rfl hq1.g0 rfl rfl (Nat.le_of_ble_eq_true rfl) (by omega) (by first | omega | (dsimp only; omega)) (by first | omega | (dsimp only; omega)) (hB _ _ hq1 hQ1)) rfl (fun r6 M2 p2 => ?_)
        obtain ⟨hv2, ht2, hkm, hQ2⟩ := p2
        have hq2 : qX Γ M2.2.2 m := by rw [hkm.1]; exact hq1
        refine g_istore (q := 425) (lc' := [(6, _), (5, _), (4, _), (3, _), (2, _), (1, _), (0, _)]) hx d_La_law_423 rfl (by decide) rfl ?_
        refine g_aload_n (q := 426) hx d_La_law_425 rfl rfl ?_
        refine g_ci (q := 429) (zrunV hx d_La_law_426 lk_La_63 rfl rfl hq2.g0 rfl rfl (Nat.le_of_ble_eq_true rfl) (by decide) (by first | omega | (dsimp only; omega)) (by first | omega | (dsimp only; omega)) (c_Mo_thrown _ E Γ _ _ m hq2)) rfl (fun r7 M3 p3 => ?_)
        obtain ⟨rfl, e3⟩ := p3
        subst e3
        refine g_iload (q := 431) hx d_La_law_429 rfl rfl ?_
        refine g_icmp_eq (q := 434) (t := 436) hx d_La_law_431 rfl rfl Iff.rfl (fun h431 => ?_) (fun h431 => ?_)
        · refine g_iload (q := 438) hx d_La_law_436 rfl rfl ?_
          refine g_if_ne (q := 441) (t := 453) hx d_La_law_438 rfl rfl (zb_ne0 (by omega)) (fun h438 => ?_) (fun h438 => ?_)
          · refine g_goto (q := 807) hx d_La_law_453 rfl ?_
            refine z_perm (lc' := [(4, .int (nI i)), (3, .ref o), (2, .ref m), (1, .ref x), (0, .ref b)]) (fun q hq => by simp only [List.mem_cons, List.not_mem_nil, or_false] at hq ⊢; rcases hq with h | h | h | h | h <;> simp [h]) ?_
            exact kk9 _ _ _ V' (lI.b hG hP1 hq1 hkm hQ2) (by first | omega | (dsimp only; omega)) (by first | omega | (dsimp only; omega))
          · have hcd0 : cd = 0 := Decidable.byContradiction h438
            refine g_aload_n (q := 442) hx d_La_law_441 rfl rfl ?_
            refine g_iconst (q := 443) (v := nI 0) hx d_La_law_442 rfl (by decide) ?_
            refine g_lald (q := 444) (x := r.toInt64) hx d_La_law_443 rfl hG.2.1 rfl (by decide) (by decide) ((hkm.o hG 0).trans (ho1 hcd0)) ?_
            refine g_iload (q := 446) hx d_La_law_444 rfl rfl ?_
            refine g_i2l (q := 447) hx d_La_law_446 rfl rfl ?_
            refine g_lcmp (q := 448) hx d_La_law_447 rfl ?_
            refine g_if_eq (q := 451) (t := 453) hx d_La_law_448 rfl rfl Iff.rfl (fun h448 => ?_) (fun h448 => ?_)
            · refine g_goto (q := 807) hx d_La_law_453 rfl ?_
              refine z_perm (lc' := [(4, .int (nI i)), (3, .ref o), (2, .ref m), (1, .ref x), (0, .ref b)]) (fun q hq => by simp only [List.mem_cons, List.not_mem_nil, or_false] at hq ⊢; rcases hq with h | h | h | h | h <;> simp [h]) ?_
              exact kk9 _ _ _ V' (lI.b hG hP1 hq1 hkm hQ2) (by first | omega | (dsimp only; omega)) (by first | omega | (dsimp only; omega))
            · exact absurd (by rw [hv2 hcd0]; exact lg_cmp_self _) h448
        · exact absurd ht2 h431
      · exact absurd hz h412
    · exact absurd hz h379
  · refine g_aload_n (q := 361) hx d_La_law_360 rfl rfl ?_
    refine g_aload_n (q := 362) hx d_La_law_361 rfl rfl ?_
    refine g_iload (q := 364) hx d_La_law_362 rfl rfl ?_
    refine g_iconst (q := 365) (v := nI 1) hx d_La_law_364 rfl (by decide) ?_
    refine g_iadd (q := 366) hx d_La_law_365 rfl (nI_add _ _) ?_
    refine g_sld (q := 367) (i + 1) hx hX d_La_law_366 rfl rfl (by omega) ?_
    refine g_aload_n (q := 368) hx d_La_law_367 rfl rfl ?_
    refine g_iload (q := 370) hx d_La_law_368 rfl rfl ?_
    refine g_iconst (q := 371) (v := nI 2) hx d_La_law_370 rfl (by decide) ?_
    refine g_iadd (q := 372) hx d_La_law_371 rfl (nI_add _ _) ?_
    refine g_sld (q := 373) (i + 2) hx hX d_La_law_372 rfl rfl (by omega) ?_
    refine g_aload_n (q := 374) hx d_La_law_373 rfl rfl ?_
    refine g_iload (q := 376) hx d_La_law_374 rfl rfl ?_
    refine g_iconst (q := 377) (v := nI 3) hx d_La_law_376 rfl (by decide) ?_
    refine g_iadd (q := 378) hx d_La_law_377 rfl (nI_add _ _) ?_
    refine g_sld (q := 379) (i + 3) hx hX d_La_law_378 rfl rfl (by omega) ?_
    refine g_if_eq (q := 382) (t := 386) hx d_La_law_379 rfl rfl Iff.rfl (fun h379 => ?_) (fun h379 => ?_)
    · exact absurd h379 hz
    · refine g_iconst (q := 383) (v := nI 1) hx d_La_law_382 rfl (by decide) ?_
      refine g_goto (q := 387) hx d_La_law_383 rfl ?_
      refine g_aload_n (q := 388) hx d_La_law_387 rfl rfl ?_
      obtain ⟨cd, r, V', hcd, ⟨δ, e, hδ1, hδ2, hA⟩, ⟨d9, hd9, hB⟩⟩ := o_about (zll f.1) hl E Γ x m o V hI.1.o hG.1 hG.2.1 (xs (i + 1)) (xs (i + 2)) (nI 1)
      refine g_cik (q := 391) (zrunW hx d_La_law_388 lw_La_87 rfl rfl (Nat.le_of_ble_eq_true rfl) (by decide) (by first | omega | (dsimp only; omega)) (by first | omega | (dsimp only; omega)) (hA n _ hI.1)) rfl (fun r5 M1 p1 => ?_)
      obtain ⟨rfl, hk3, hP1, ho1⟩ := p1
      obtain ⟨hq1, hQ1⟩ := hI.a hG hk3
      refine g_istore (q := 393) (lc' := [(5, _), (4, _), (3, _), (2, _), (1, _), (0, _)]) hx d_La_law_391 rfl (by decide) rfl ?_
      refine g_aload_n (q := 394) hx d_La_law_393 rfl rfl ?_
      refine g_aload_n (q := 395) hx d_La_law_394 rfl rfl ?_
      refine g_iload (q := 397) hx d_La_law_395 rfl rfl ?_
      refine g_iconst (q := 398) (v := nI 1) hx d_La_law_397 rfl (by decide) ?_
      refine g_iadd (q := 399) hx d_La_law_398 rfl (nI_add _ _) ?_
      refine g_sld (q := 400) (i + 1) hx hX d_La_law_399 rfl rfl (by omega) ?_
      refine g_aload_n (q := 401) hx d_La_law_400 rfl rfl ?_
      refine g_iload (q := 403) hx d_La_law_401 rfl rfl ?_
      refine g_iconst (q := 404) (v := nI 2) hx d_La_law_403 rfl (by decide) ?_
      refine g_iadd (q := 405) hx d_La_law_404 rfl (nI_add _ _) ?_
      refine g_sld (q := 406) (i + 2) hx hX d_La_law_405 rfl rfl (by omega) ?_
      refine g_aload_n (q := 407) hx d_La_law_406 rfl rfl ?_
      refine g_iload (q := 409) hx d_La_law_407 rfl rfl ?_
      refine g_iconst (q := 410) (v := nI 3) hx d_La_law_409 rfl (by decide) ?_
      refine g_iadd (q := 411) hx d_La_law_410 rfl (nI_add _ _) ?_
      refine g_sld (q := 412) (i + 3) hx hX d_La_law_411 rfl rfl (by omega) ?_
      refine g_if_eq (q := 415) (t := 419) hx d_La_law_412 rfl rfl Iff.rfl (fun h412 => ?_) (fun h412 => ?_)
      · exact absurd h412 hz
      · refine g_iconst (q := 416) (v := nI 1) hx d_La_law_415 rfl (by decide) ?_
        refine g_goto (q := 420) hx d_La_law_416 rfl ?_
        refine g_ci (q := 423) (zrunV hx d_La_law_420 lk_La_90 rfl rfl hq1.g0 rfl rfl (Nat.le_of_ble_eq_true rfl) (by omega) (by first | omega | (dsimp only; omega)) (by first | omega | (dsimp only; omega)) (hB _ _ hq1 hQ1)) rfl (fun r6 M2 p2 => ?_)
        obtain ⟨hv2, ht2, hkm, hQ2⟩ := p2
        have hq2 : qX Γ M2.2.2 m := by rw [hkm.1]; exact hq1
        refine g_istore (q := 425) (lc' := [(6, _), (5, _), (4, _), (3, _), (2, _), (1, _), (0, _)]) hx d_La_law_423 rfl (by decide) rfl ?_
        refine g_aload_n (q := 426) hx d_La_law_425 rfl rfl ?_
        refine g_ci (q := 429) (zrunV hx d_La_law_426 lk_La_63 rfl rfl hq2.g0 rfl rfl (Nat.le_of_ble_eq_true rfl) (by decide) (by first | omega | (dsimp only; omega)) (by first | omega | (dsimp only; omega)) (c_Mo_thrown _ E Γ _ _ m hq2)) rfl (fun r7 M3 p3 => ?_)
        obtain ⟨rfl, e3⟩ := p3
        subst e3
        refine g_iload (q := 431) hx d_La_law_429 rfl rfl ?_
        refine g_icmp_eq (q := 434) (t := 436) hx d_La_law_431 rfl rfl Iff.rfl (fun h431 => ?_) (fun h431 => ?_)
        · refine g_iload (q := 438) hx d_La_law_436 rfl rfl ?_
          refine g_if_ne (q := 441) (t := 453) hx d_La_law_438 rfl rfl (zb_ne0 (by omega)) (fun h438 => ?_) (fun h438 => ?_)
          · refine g_goto (q := 807) hx d_La_law_453 rfl ?_
            refine z_perm (lc' := [(4, .int (nI i)), (3, .ref o), (2, .ref m), (1, .ref x), (0, .ref b)]) (fun q hq => by simp only [List.mem_cons, List.not_mem_nil, or_false] at hq ⊢; rcases hq with h | h | h | h | h <;> simp [h]) ?_
            exact kk9 _ _ _ V' (lI.b hG hP1 hq1 hkm hQ2) (by first | omega | (dsimp only; omega)) (by first | omega | (dsimp only; omega))
          · have hcd0 : cd = 0 := Decidable.byContradiction h438
            refine g_aload_n (q := 442) hx d_La_law_441 rfl rfl ?_
            refine g_iconst (q := 443) (v := nI 0) hx d_La_law_442 rfl (by decide) ?_
            refine g_lald (q := 444) (x := r.toInt64) hx d_La_law_443 rfl hG.2.1 rfl (by decide) (by decide) ((hkm.o hG 0).trans (ho1 hcd0)) ?_
            refine g_iload (q := 446) hx d_La_law_444 rfl rfl ?_
            refine g_i2l (q := 447) hx d_La_law_446 rfl rfl ?_
            refine g_lcmp (q := 448) hx d_La_law_447 rfl ?_
            refine g_if_eq (q := 451) (t := 453) hx d_La_law_448 rfl rfl Iff.rfl (fun h448 => ?_) (fun h448 => ?_)
            · refine g_goto (q := 807) hx d_La_law_453 rfl ?_
              refine z_perm (lc' := [(4, .int (nI i)), (3, .ref o), (2, .ref m), (1, .ref x), (0, .ref b)]) (fun q hq => by simp only [List.mem_cons, List.not_mem_nil, or_false] at hq ⊢; rcases hq with h | h | h | h | h <;> simp [h]) ?_
              exact kk9 _ _ _ V' (lI.b hG hP1 hq1 hkm hQ2) (by first | omega | (dsimp only; omega)) (by first | omega | (dsimp only; omega))
            · exact absurd (by rw [hv2 hcd0]; exact lg_cmp_self _) h448
        · exact absurd ht2 h431
set_option maxHeartbeats 4000000 in
set_option maxRecDepth 100000 in
theorem l_base {f : zF} {E : zE} {kk : Nat × Nat} (hx : zOk f E Y_La_law 9 kk) (hl : (zll f.1).stackTraces = false) {b L : Nat} {xs : Nat → Int32} (hX : zX0 f E b L xs) {Γ : zG} {x m o : Nat} (hG : lG Γ x m o) (n : Nat) (k : Nat × Nat) (M : zM) (V : sV) (hI : lI Γ x m M V) (i : Nat) (hi : i + 4 ≤ L) (hk1 : k.1 + 1 ≤ kk.1) (hk2 : k.2 + 6 ≤ kk.2) (kk9 : lN9 f E Γ x m k [(4, .int (nI i)), (3, .ref o), (2, .ref m), (1, .ref x), (0, .ref b)]) : zGo f E Γ n k M 456 [(4, .int (nI i)), (3, .ref o), (2, .ref m), (1, .ref x), (0, .ref b)] [] := by
  have hL := hX.2.2.2
  by_cases hz : xs (i + 3) = 0
  · refine g_aload_n (q := 457) hx d_La_law_456 rfl rfl ?_
    refine g_aload_n (q := 458) hx d_La_law_457 rfl rfl ?_
    refine g_iload (q := 460) hx d_La_law_458 rfl rfl ?_
    refine g_iconst (q := 461) (v := nI 1) hx d_La_law_460 rfl (by decide) ?_
    refine g_iadd (q := 462) hx d_La_law_461 rfl (nI_add _ _) ?_
    refine g_sld (q := 463) (i + 1) hx hX d_La_law_462 rfl rfl (by omega) ?_
    refine g_aload_n (q := 464) hx d_La_law_463 rfl rfl ?_
    refine g_iload (q := 466) hx d_La_law_464 rfl rfl ?_
    refine g_iconst (q := 467) (v := nI 2) hx d_La_law_466 rfl (by decide) ?_
    refine g_iadd (q := 468) hx d_La_law_467 rfl (nI_add _ _) ?_
    refine g_sld (q := 469) (i + 2) hx hX d_La_law_468 rfl rfl (by omega) ?_
    refine g_aload_n (q := 470) hx d_La_law_469 rfl rfl ?_
    refine g_iload (q := 472) hx d_La_law_470 rfl rfl ?_
    refine g_iconst (q := 473) (v := nI 3) hx d_La_law_472 rfl (by decide) ?_
    refine g_iadd (q := 474) hx d_La_law_473 rfl (nI_add _ _) ?_
    refine g_sld (q := 475) (i + 3) hx hX d_La_law_474 rfl rfl (by omega) ?_
    refine g_if_eq (q := 478) (t := 482) hx d_La_law_475 rfl rfl Iff.rfl (fun h475 => ?_) (fun h475 => ?_)
    · refine g_iconst (q := 483) (v := nI 0) hx d_La_law_482 rfl (by decide) ?_
      refine g_aload_n (q := 484) hx d_La_law_483 rfl rfl ?_
      obtain ⟨cd, r, V', hcd, ⟨δ, e, hδ1, hδ2, hA⟩, ⟨d9, hd9, hB⟩⟩ := o_base (zll f.1) hl E Γ x m o V hI.1.o hG.1 hG.2.1 (xs (i + 1)) (xs (i + 2)) (nI 0)
      refine g_cik (q := 487) (zrunW hx d_La_law_484 lw_La_91 rfl rfl (Nat.le_of_ble_eq_true rfl) (by decide) (by first | omega | (dsimp only; omega)) (by first | omega | (dsimp only; omega)) (hA n _ hI.1)) rfl (fun r5 M1 p1 => ?_)
      obtain ⟨rfl, hk3, hP1, ho1⟩ := p1
      obtain ⟨hq1, hQ1⟩ := hI.a hG hk3
      refine g_istore (q := 489) (lc' := [(5, _), (4, _), (3, _), (2, _), (1, _), (0, _)]) hx d_La_law_487 rfl (by decide) rfl ?_
      refine g_aload_n (q := 490) hx d_La_law_489 rfl rfl ?_
      refine g_aload_n (q := 491) hx d_La_law_490 rfl rfl ?_
      refine g_iload (q := 493) hx d_La_law_491 rfl rfl ?_
      refine g_iconst (q := 494) (v := nI 1) hx d_La_law_493 rfl (by decide) ?_
      refine g_iadd (q := 495) hx d_La_law_494 rfl (nI_add _ _) ?_
      refine g_sld (q := 496) (i + 1) hx hX d_La_law_495 rfl rfl (by omega) ?_
      refine g_aload_n (q := 497) hx d_La_law_496 rfl rfl ?_
      refine g_iload (q := 499) hx d_La_law_497 rfl rfl ?_
      refine g_iconst (q := 500) (v := nI 2) hx d_La_law_499 rfl (by decide) ?_
      refine g_iadd (q := 501) hx d_La_law_500 rfl (nI_add _ _) ?_
      refine g_sld (q := 502) (i + 2) hx hX d_La_law_501 rfl rfl (by omega) ?_
      refine g_aload_n (q := 503) hx d_La_law_502 rfl rfl ?_
      refine g_iload (q := 505) hx d_La_law_503 rfl rfl ?_
      refine g_iconst (q := 506) (v := nI 3) hx d_La_law_505 rfl (by decide) ?_
      refine g_iadd (q := 507) hx d_La_law_506 rfl (nI_add _ _) ?_
      refine g_sld (q := 508) (i + 3) hx hX d_La_law_507 rfl rfl (by omega) ?_
      refine g_if_eq (q := 511) (t := 515) hx d_La_law_508 rfl rfl Iff.rfl (fun h508 => ?_) (fun h508 => ?_)
      · refine g_iconst (q := 516) (v := nI 0) hx d_La_law_515 rfl (by decide) ?_
        refine g_ci (q := 519) (zrunV hx d_La_law_516 lk_La_93 rfl rfl hq1.g0 rfl rfl (Nat.le_of_ble_eq_true rfl) (by omega) (by first | omega | (dsimp only; omega)) (by first | omega | (dsimp only; omega)) (hB _ _ hq1 hQ1)) rfl (fun r6 M2 p2 => ?_)
        obtain ⟨hv2, ht2, hkm, hQ2⟩ := p2
        have hq2 : qX Γ M2.2.2 m := by rw [hkm.1]; exact hq1
        refine g_istore (q := 521) (lc' := [(6, _), (5, _), (4, _), (3, _), (2, _), (1, _), (0, _)]) hx d_La_law_519 rfl (by decide) rfl ?_
        refine g_aload_n (q := 522) hx d_La_law_521 rfl rfl ?_
        refine g_ci (q := 525) (zrunV hx d_La_law_522 lk_La_63 rfl rfl hq2.g0 rfl rfl (Nat.le_of_ble_eq_true rfl) (by decide) (by first | omega | (dsimp only; omega)) (by first | omega | (dsimp only; omega)) (c_Mo_thrown _ E Γ _ _ m hq2)) rfl (fun r7 M3 p3 => ?_)
        obtain ⟨rfl, e3⟩ := p3
        subst e3
        refine g_iload (q := 527) hx d_La_law_525 rfl rfl ?_
        refine g_icmp_eq (q := 530) (t := 532) hx d_La_law_527 rfl rfl Iff.rfl (fun h527 => ?_) (fun h527 => ?_)
        · refine g_iload (q := 534) hx d_La_law_532 rfl rfl ?_
          refine g_if_ne (q := 537) (t := 549) hx d_La_law_534 rfl rfl (zb_ne0 (by omega)) (fun h534 => ?_) (fun h534 => ?_)
          · refine g_goto (q := 807) hx d_La_law_549 rfl ?_
            refine z_perm (lc' := [(4, .int (nI i)), (3, .ref o), (2, .ref m), (1, .ref x), (0, .ref b)]) (fun q hq => by simp only [List.mem_cons, List.not_mem_nil, or_false] at hq ⊢; rcases hq with h | h | h | h | h <;> simp [h]) ?_
            exact kk9 _ _ _ V' (lI.b hG hP1 hq1 hkm hQ2) (by first | omega | (dsimp only; omega)) (by first | omega | (dsimp only; omega))
          · have hcd0 : cd = 0 := Decidable.byContradiction h534
            refine g_aload_n (q := 538) hx d_La_law_537 rfl rfl ?_
            refine g_iconst (q := 539) (v := nI 0) hx d_La_law_538 rfl (by decide) ?_
            refine g_lald (q := 540) (x := r.toInt64) hx d_La_law_539 rfl hG.2.1 rfl (by decide) (by decide) ((hkm.o hG 0).trans (ho1 hcd0)) ?_
            refine g_iload (q := 542) hx d_La_law_540 rfl rfl ?_
            refine g_i2l (q := 543) hx d_La_law_542 rfl rfl ?_
            refine g_lcmp (q := 544) hx d_La_law_543 rfl ?_
            refine g_if_eq (q := 547) (t := 549) hx d_La_law_544 rfl rfl Iff.rfl (fun h544 => ?_) (fun h544 => ?_)
            · refine g_goto (q := 807) hx d_La_law_549 rfl ?_
              refine z_perm (lc' := [(4, .int (nI i)), (3, .ref o), (2, .ref m), (1, .ref x), (0, .ref b)]) (fun q hq => by simp only [List.mem_cons, List.not_mem_nil, or_false] at hq ⊢; rcases hq with h | h | h | h | h <;> simp [h]) ?_
              exact kk9 _ _ _ V' (lI.b hG hP1 hq1 hkm hQ2) (by first | omega | (dsimp only; omega)) (by first | omega | (dsimp only; omega))
            · exact absurd (by rw [hv2 hcd0]; exact lg_cmp_self _) h544
        · exact absurd ht2 h527
      · exact absurd hz h508
    · exact absurd hz h475
  · refine g_aload_n (q := 457) hx d_La_law_456 rfl rfl ?_
    refine g_aload_n (q := 458) hx d_La_law_457 rfl rfl ?_
    refine g_iload (q := 460) hx d_La_law_458 rfl rfl ?_
    refine g_iconst (q := 461) (v := nI 1) hx d_La_law_460 rfl (by decide) ?_
    refine g_iadd (q := 462) hx d_La_law_461 rfl (nI_add _ _) ?_
    refine g_sld (q := 463) (i + 1) hx hX d_La_law_462 rfl rfl (by omega) ?_
    refine g_aload_n (q := 464) hx d_La_law_463 rfl rfl ?_
    refine g_iload (q := 466) hx d_La_law_464 rfl rfl ?_
    refine g_iconst (q := 467) (v := nI 2) hx d_La_law_466 rfl (by decide) ?_
    refine g_iadd (q := 468) hx d_La_law_467 rfl (nI_add _ _) ?_
    refine g_sld (q := 469) (i + 2) hx hX d_La_law_468 rfl rfl (by omega) ?_
    refine g_aload_n (q := 470) hx d_La_law_469 rfl rfl ?_
    refine g_iload (q := 472) hx d_La_law_470 rfl rfl ?_
    refine g_iconst (q := 473) (v := nI 3) hx d_La_law_472 rfl (by decide) ?_
    refine g_iadd (q := 474) hx d_La_law_473 rfl (nI_add _ _) ?_
    refine g_sld (q := 475) (i + 3) hx hX d_La_law_474 rfl rfl (by omega) ?_
    refine g_if_eq (q := 478) (t := 482) hx d_La_law_475 rfl rfl Iff.rfl (fun h475 => ?_) (fun h475 => ?_)
    · exact absurd h475 hz
    · refine g_iconst (q := 479) (v := nI 1) hx d_La_law_478 rfl (by decide) ?_
      refine g_goto (q := 483) hx d_La_law_479 rfl ?_
      refine g_aload_n (q := 484) hx d_La_law_483 rfl rfl ?_
      obtain ⟨cd, r, V', hcd, ⟨δ, e, hδ1, hδ2, hA⟩, ⟨d9, hd9, hB⟩⟩ := o_base (zll f.1) hl E Γ x m o V hI.1.o hG.1 hG.2.1 (xs (i + 1)) (xs (i + 2)) (nI 1)
      refine g_cik (q := 487) (zrunW hx d_La_law_484 lw_La_91 rfl rfl (Nat.le_of_ble_eq_true rfl) (by decide) (by first | omega | (dsimp only; omega)) (by first | omega | (dsimp only; omega)) (hA n _ hI.1)) rfl (fun r5 M1 p1 => ?_)
      obtain ⟨rfl, hk3, hP1, ho1⟩ := p1
      obtain ⟨hq1, hQ1⟩ := hI.a hG hk3
      refine g_istore (q := 489) (lc' := [(5, _), (4, _), (3, _), (2, _), (1, _), (0, _)]) hx d_La_law_487 rfl (by decide) rfl ?_
      refine g_aload_n (q := 490) hx d_La_law_489 rfl rfl ?_
      refine g_aload_n (q := 491) hx d_La_law_490 rfl rfl ?_
      refine g_iload (q := 493) hx d_La_law_491 rfl rfl ?_
      refine g_iconst (q := 494) (v := nI 1) hx d_La_law_493 rfl (by decide) ?_
      refine g_iadd (q := 495) hx d_La_law_494 rfl (nI_add _ _) ?_
      refine g_sld (q := 496) (i + 1) hx hX d_La_law_495 rfl rfl (by omega) ?_
      refine g_aload_n (q := 497) hx d_La_law_496 rfl rfl ?_
      refine g_iload (q := 499) hx d_La_law_497 rfl rfl ?_
      refine g_iconst (q := 500) (v := nI 2) hx d_La_law_499 rfl (by decide) ?_
      refine g_iadd (q := 501) hx d_La_law_500 rfl (nI_add _ _) ?_
      refine g_sld (q := 502) (i + 2) hx hX d_La_law_501 rfl rfl (by omega) ?_
      refine g_aload_n (q := 503) hx d_La_law_502 rfl rfl ?_
      refine g_iload (q := 505) hx d_La_law_503 rfl rfl ?_
      refine g_iconst (q := 506) (v := nI 3) hx d_La_law_505 rfl (by decide) ?_
      refine g_iadd (q := 507) hx d_La_law_506 rfl (nI_add _ _) ?_
      refine g_sld (q := 508) (i + 3) hx hX d_La_law_507 rfl rfl (by omega) ?_
      refine g_if_eq (q := 511) (t := 515) hx d_La_law_508 rfl rfl Iff.rfl (fun h508 => ?_) (fun h508 => ?_)
      · exact absurd h508 hz
      · refine g_iconst (q := 512) (v := nI 1) hx d_La_law_511 rfl (by decide) ?_
        refine g_goto (q := 516) hx d_La_law_512 rfl ?_
        refine g_ci (q := 519) (zrunV hx d_La_law_516 lk_La_93 rfl rfl hq1.g0 rfl rfl (Nat.le_of_ble_eq_true rfl) (by omega) (by first | omega | (dsimp only; omega)) (by first | omega | (dsimp only; omega)) (hB _ _ hq1 hQ1)) rfl (fun r6 M2 p2 => ?_)
        obtain ⟨hv2, ht2, hkm, hQ2⟩ := p2
        have hq2 : qX Γ M2.2.2 m := by rw [hkm.1]; exact hq1
        refine g_istore (q := 521) (lc' := [(6, _), (5, _), (4, _), (3, _), (2, _), (1, _), (0, _)]) hx d_La_law_519 rfl (by decide) rfl ?_
        refine g_aload_n (q := 522) hx d_La_law_521 rfl rfl ?_
        refine g_ci (q := 525) (zrunV hx d_La_law_522 lk_La_63 rfl rfl hq2.g0 rfl rfl (Nat.le_of_ble_eq_true rfl) (by decide) (by first | omega | (dsimp only; omega)) (by first | omega | (dsimp only; omega)) (c_Mo_thrown _ E Γ _ _ m hq2)) rfl (fun r7 M3 p3 => ?_)
        obtain ⟨rfl, e3⟩ := p3
        subst e3
        refine g_iload (q := 527) hx d_La_law_525 rfl rfl ?_
        refine g_icmp_eq (q := 530) (t := 532) hx d_La_law_527 rfl rfl Iff.rfl (fun h527 => ?_) (fun h527 => ?_)
        · refine g_iload (q := 534) hx d_La_law_532 rfl rfl ?_
          refine g_if_ne (q := 537) (t := 549) hx d_La_law_534 rfl rfl (zb_ne0 (by omega)) (fun h534 => ?_) (fun h534 => ?_)
          · refine g_goto (q := 807) hx d_La_law_549 rfl ?_
            refine z_perm (lc' := [(4, .int (nI i)), (3, .ref o), (2, .ref m), (1, .ref x), (0, .ref b)]) (fun q hq => by simp only [List.mem_cons, List.not_mem_nil, or_false] at hq ⊢; rcases hq with h | h | h | h | h <;> simp [h]) ?_
            exact kk9 _ _ _ V' (lI.b hG hP1 hq1 hkm hQ2) (by first | omega | (dsimp only; omega)) (by first | omega | (dsimp only; omega))
          · have hcd0 : cd = 0 := Decidable.byContradiction h534
            refine g_aload_n (q := 538) hx d_La_law_537 rfl rfl ?_
            refine g_iconst (q := 539) (v := nI 0) hx d_La_law_538 rfl (by decide) ?_
            refine g_lald (q := 540) (x := r.toInt64) hx d_La_law_539 rfl hG.2.1 rfl (by decide) (by decide) ((hkm.o hG 0).trans (ho1 hcd0)) ?_
            refine g_iload (q := 542) hx d_La_law_540 rfl rfl ?_
            refine g_i2l (q := 543) hx d_La_law_542 rfl rfl ?_
            refine g_lcmp (q := 544) hx d_La_law_543 rfl ?_
            refine g_if_eq (q := 547) (t := 549) hx d_La_law_544 rfl rfl Iff.rfl (fun h544 => ?_) (fun h544 => ?_)
            · refine g_goto (q := 807) hx d_La_law_549 rfl ?_
              refine z_perm (lc' := [(4, .int (nI i)), (3, .ref o), (2, .ref m), (1, .ref x), (0, .ref b)]) (fun q hq => by simp only [List.mem_cons, List.not_mem_nil, or_false] at hq ⊢; rcases hq with h | h | h | h | h <;> simp [h]) ?_
              exact kk9 _ _ _ V' (lI.b hG hP1 hq1 hkm hQ2) (by first | omega | (dsimp only; omega)) (by first | omega | (dsimp only; omega))
            · exact absurd (by rw [hv2 hcd0]; exact lg_cmp_self _) h544
        · exact absurd ht2 h527
set_option maxHeartbeats 4000000 in
set_option maxRecDepth 100000 in
theorem l_at {f : zF} {E : zE} {kk : Nat × Nat} (hx : zOk f E Y_La_law 9 kk) (hl : (zll f.1).stackTraces = false) {b L : Nat} {xs : Nat → Int32} (hX : zX0 f E b L xs) {Γ : zG} {x m o : Nat} (hG : lG Γ x m o) (n : Nat) (k : Nat × Nat) (M : zM) (V : sV) (hI : lI Γ x m M V) (i : Nat) (hi : i + 4 ≤ L) (hk1 : k.1 + 1 ≤ kk.1) (hk2 : k.2 + 6 ≤ kk.2) (kk9 : lN9 f E Γ x m k [(4, .int (nI i)), (3, .ref o), (2, .ref m), (1, .ref x), (0, .ref b)]) : zGo f E Γ n k M 591 [(4, .int (nI i)), (3, .ref o), (2, .ref m), (1, .ref x), (0, .ref b)] [] := by
  have hL := hX.2.2.2
  refine g_aload_n (q := 592) hx d_La_law_591 rfl rfl ?_
  refine g_aload_n (q := 593) hx d_La_law_592 rfl rfl ?_
  refine g_iload (q := 595) hx d_La_law_593 rfl rfl ?_
  refine g_iconst (q := 596) (v := nI 1) hx d_La_law_595 rfl (by decide) ?_
  refine g_iadd (q := 597) hx d_La_law_596 rfl (nI_add _ _) ?_
  refine g_sld (q := 598) (i + 1) hx hX d_La_law_597 rfl rfl (by omega) ?_
  refine g_aload_n (q := 599) hx d_La_law_598 rfl rfl ?_
  obtain ⟨cd, r, V', hcd, ⟨δ, e, hδ1, hδ2, hA⟩, ⟨d9, hd9, hB⟩⟩ := o_at (zll f.1) hl E Γ x m o V hI.1.o hG.1 hG.2.1 (xs (i + 1))
  refine g_cik (q := 602) (zrunW hx d_La_law_599 lw_La_106 rfl rfl (Nat.le_of_ble_eq_true rfl) (by decide) (by first | omega | (dsimp only; omega)) (by first | omega | (dsimp only; omega)) (hA n _ hI.1)) rfl (fun r5 M1 p1 => ?_)
  obtain ⟨rfl, hk3, hP1, ho1⟩ := p1
  obtain ⟨hq1, hQ1⟩ := hI.a hG hk3
  refine g_istore (q := 604) (lc' := [(5, _), (4, _), (3, _), (2, _), (1, _), (0, _)]) hx d_La_law_602 rfl (by decide) rfl ?_
  refine g_aload_n (q := 605) hx d_La_law_604 rfl rfl ?_
  refine g_aload_n (q := 606) hx d_La_law_605 rfl rfl ?_
  refine g_iload (q := 608) hx d_La_law_606 rfl rfl ?_
  refine g_iconst (q := 609) (v := nI 1) hx d_La_law_608 rfl (by decide) ?_
  refine g_iadd (q := 610) hx d_La_law_609 rfl (nI_add _ _) ?_
  refine g_sld (q := 611) (i + 1) hx hX d_La_law_610 rfl rfl (by omega) ?_
  refine g_ci (q := 614) (zrunV hx d_La_law_611 lk_La_109 rfl rfl hq1.g0 rfl rfl (Nat.le_of_ble_eq_true rfl) (by omega) (by first | omega | (dsimp only; omega)) (by first | omega | (dsimp only; omega)) (hB _ _ hq1 hQ1)) rfl (fun r6 M2 p2 => ?_)
  obtain ⟨hv2, ht2, hkm, hQ2⟩ := p2
  have hq2 : qX Γ M2.2.2 m := by rw [hkm.1]; exact hq1
  refine g_istore (q := 616) (lc' := [(6, _), (5, _), (4, _), (3, _), (2, _), (1, _), (0, _)]) hx d_La_law_614 rfl (by decide) rfl ?_
  refine g_aload_n (q := 617) hx d_La_law_616 rfl rfl ?_
  refine g_ci (q := 620) (zrunV hx d_La_law_617 lk_La_63 rfl rfl hq2.g0 rfl rfl (Nat.le_of_ble_eq_true rfl) (by decide) (by first | omega | (dsimp only; omega)) (by first | omega | (dsimp only; omega)) (c_Mo_thrown _ E Γ _ _ m hq2)) rfl (fun r7 M3 p3 => ?_)
  obtain ⟨rfl, e3⟩ := p3
  subst e3
  refine g_iload (q := 622) hx d_La_law_620 rfl rfl ?_
  refine g_icmp_eq (q := 625) (t := 627) hx d_La_law_622 rfl rfl Iff.rfl (fun h622 => ?_) (fun h622 => ?_)
  · refine g_iload (q := 629) hx d_La_law_627 rfl rfl ?_
    refine g_if_ne (q := 632) (t := 644) hx d_La_law_629 rfl rfl (zb_ne0 (by omega)) (fun h629 => ?_) (fun h629 => ?_)
    · refine g_goto (q := 807) hx d_La_law_644 rfl ?_
      refine z_perm (lc' := [(4, .int (nI i)), (3, .ref o), (2, .ref m), (1, .ref x), (0, .ref b)]) (fun q hq => by simp only [List.mem_cons, List.not_mem_nil, or_false] at hq ⊢; rcases hq with h | h | h | h | h <;> simp [h]) ?_
      exact kk9 _ _ _ V' (lI.b hG hP1 hq1 hkm hQ2) (by first | omega | (dsimp only; omega)) (by first | omega | (dsimp only; omega))
    · have hcd0 : cd = 0 := Decidable.byContradiction h629
      refine g_aload_n (q := 633) hx d_La_law_632 rfl rfl ?_
      refine g_iconst (q := 634) (v := nI 0) hx d_La_law_633 rfl (by decide) ?_
      refine g_lald (q := 635) (x := r.toInt64) hx d_La_law_634 rfl hG.2.1 rfl (by decide) (by decide) ((hkm.o hG 0).trans (ho1 hcd0)) ?_
      refine g_iload (q := 637) hx d_La_law_635 rfl rfl ?_
      refine g_i2l (q := 638) hx d_La_law_637 rfl rfl ?_
      refine g_lcmp (q := 639) hx d_La_law_638 rfl ?_
      refine g_if_eq (q := 642) (t := 644) hx d_La_law_639 rfl rfl Iff.rfl (fun h639 => ?_) (fun h639 => ?_)
      · refine g_goto (q := 807) hx d_La_law_644 rfl ?_
        refine z_perm (lc' := [(4, .int (nI i)), (3, .ref o), (2, .ref m), (1, .ref x), (0, .ref b)]) (fun q hq => by simp only [List.mem_cons, List.not_mem_nil, or_false] at hq ⊢; rcases hq with h | h | h | h | h <;> simp [h]) ?_
        exact kk9 _ _ _ V' (lI.b hG hP1 hq1 hkm hQ2) (by first | omega | (dsimp only; omega)) (by first | omega | (dsimp only; omega))
      · exact absurd (by rw [hv2 hcd0]; exact lg_cmp_self _) h639
  · exact absurd ht2 h622
set_option maxHeartbeats 4000000 in
set_option maxRecDepth 100000 in
theorem l_corrupt {f : zF} {E : zE} {kk : Nat × Nat} (hx : zOk f E Y_La_law 9 kk) (hl : (zll f.1).stackTraces = false) {b L : Nat} {xs : Nat → Int32} (hX : zX0 f E b L xs) {Γ : zG} {x m o : Nat} (hG : lG Γ x m o) (n : Nat) (k : Nat × Nat) (M : zM) (V : sV) (hI : lI Γ x m M V) (i : Nat) (hi : i + 4 ≤ L) (hk1 : k.1 + 1 ≤ kk.1) (hk2 : k.2 + 6 ≤ kk.2) (kk9 : lN9 f E Γ x m k [(4, .int (nI i)), (3, .ref o), (2, .ref m), (1, .ref x), (0, .ref b)]) : zGo f E Γ n k M 647 [(4, .int (nI i)), (3, .ref o), (2, .ref m), (1, .ref x), (0, .ref b)] [] := by
  have hL := hX.2.2.2
  refine g_aload_n (q := 648) hx d_La_law_647 rfl rfl ?_
  refine g_aload_n (q := 649) hx d_La_law_648 rfl rfl ?_
  refine g_iload (q := 651) hx d_La_law_649 rfl rfl ?_
  refine g_iconst (q := 652) (v := nI 1) hx d_La_law_651 rfl (by decide) ?_
  refine g_iadd (q := 653) hx d_La_law_652 rfl (nI_add _ _) ?_
  refine g_sld (q := 654) (i + 1) hx hX d_La_law_653 rfl rfl (by omega) ?_
  refine g_aload_n (q := 655) hx d_La_law_654 rfl rfl ?_
  refine g_iload (q := 657) hx d_La_law_655 rfl rfl ?_
  refine g_iconst (q := 658) (v := nI 2) hx d_La_law_657 rfl (by decide) ?_
  refine g_iadd (q := 659) hx d_La_law_658 rfl (nI_add _ _) ?_
  refine g_sld (q := 660) (i + 2) hx hX d_La_law_659 rfl rfl (by omega) ?_
  obtain ⟨cd, V', hcd, ⟨δ, e, hδ1, hδ2, hA⟩, ⟨d9, hd9, hB⟩⟩ := o_corrupt (zll f.1) hl E Γ x m o V hI.1.o hG.1 (xs (i + 1)) (xs (i + 2))
  refine g_cik (q := 663) (zrunW hx d_La_law_660 lw_La_110 rfl rfl (Nat.le_of_ble_eq_true rfl) (by decide) (by first | omega | (dsimp only; omega)) (by first | omega | (dsimp only; omega)) (hA n _ hI.1)) rfl (fun r5 M1 p1 => ?_)
  obtain ⟨rfl, hk3, hP1⟩ := p1
  obtain ⟨hq1, hQ1⟩ := hI.a hG hk3
  refine g_istore (q := 665) (lc' := [(5, _), (4, _), (3, _), (2, _), (1, _), (0, _)]) hx d_La_law_663 rfl (by decide) rfl ?_
  refine g_aload_n (q := 666) hx d_La_law_665 rfl rfl ?_
  refine g_aload_n (q := 667) hx d_La_law_666 rfl rfl ?_
  refine g_iload (q := 669) hx d_La_law_667 rfl rfl ?_
  refine g_iconst (q := 670) (v := nI 1) hx d_La_law_669 rfl (by decide) ?_
  refine g_iadd (q := 671) hx d_La_law_670 rfl (nI_add _ _) ?_
  refine g_sld (q := 672) (i + 1) hx hX d_La_law_671 rfl rfl (by omega) ?_
  refine g_aload_n (q := 673) hx d_La_law_672 rfl rfl ?_
  refine g_iload (q := 675) hx d_La_law_673 rfl rfl ?_
  refine g_iconst (q := 676) (v := nI 2) hx d_La_law_675 rfl (by decide) ?_
  refine g_iadd (q := 677) hx d_La_law_676 rfl (nI_add _ _) ?_
  refine g_sld (q := 678) (i + 2) hx hX d_La_law_677 rfl rfl (by omega) ?_
  refine g_cv (q := 681) (zrunV hx d_La_law_678 lk_La_112 rfl rfl hq1.g0 rfl rfl (Nat.le_of_ble_eq_true rfl) (by omega) (by first | omega | (dsimp only; omega)) (by first | omega | (dsimp only; omega)) (hB _ _ hq1 hQ1)) rfl (fun M2 p2 => ?_)
  obtain ⟨ht2, hkm, hQ2⟩ := p2
  have hq2 : qX Γ M2.2.2 m := by rw [hkm.1]; exact hq1
  refine g_aload_n (q := 682) hx d_La_law_681 rfl rfl ?_
  refine g_ci (q := 685) (zrunV hx d_La_law_682 lk_La_63 rfl rfl hq2.g0 rfl rfl (Nat.le_of_ble_eq_true rfl) (by decide) (by first | omega | (dsimp only; omega)) (by first | omega | (dsimp only; omega)) (c_Mo_thrown _ E Γ _ _ m hq2)) rfl (fun r7 M3 p3 => ?_)
  obtain ⟨rfl, e3⟩ := p3
  subst e3
  refine g_iload (q := 687) hx d_La_law_685 rfl rfl ?_
  refine g_icmp_eq (q := 690) (t := 692) hx d_La_law_687 rfl rfl Iff.rfl (fun h687 => ?_) (fun h687 => ?_)
  · refine g_goto (q := 807) hx d_La_law_692 rfl ?_
    refine z_perm (lc' := [(4, .int (nI i)), (3, .ref o), (2, .ref m), (1, .ref x), (0, .ref b)]) (fun q hq => by simp only [List.mem_cons, List.not_mem_nil, or_false] at hq ⊢; rcases hq with h | h | h | h | h <;> simp [h]) ?_
    exact kk9 _ _ _ V' (lI.b hG hP1 hq1 hkm hQ2) (by first | omega | (dsimp only; omega)) (by first | omega | (dsimp only; omega))
  · exact absurd ht2 h687
set_option maxHeartbeats 4000000 in
set_option maxRecDepth 100000 in
theorem l_unpack {f : zF} {E : zE} {kk : Nat × Nat} (hx : zOk f E Y_La_law 9 kk) (hl : (zll f.1).stackTraces = false) {b L : Nat} {xs : Nat → Int32} (hX : zX0 f E b L xs) {Γ : zG} {x m o : Nat} (hG : lG Γ x m o) (n : Nat) (k : Nat × Nat) (M : zM) (V : sV) (hI : lI Γ x m M V) (i : Nat) (hi : i + 4 ≤ L) (hk1 : k.1 + 1 ≤ kk.1) (hk2 : k.2 + 6 ≤ kk.2) (kk9 : lN9 f E Γ x m k [(4, .int (nI i)), (3, .ref o), (2, .ref m), (1, .ref x), (0, .ref b)]) : zGo f E Γ n k M 695 [(4, .int (nI i)), (3, .ref o), (2, .ref m), (1, .ref x), (0, .ref b)] [] := by
  have hL := hX.2.2.2
  refine g_aload_n (q := 696) hx d_La_law_695 rfl rfl ?_
  refine g_aload_n (q := 697) hx d_La_law_696 rfl rfl ?_
  refine g_iload (q := 699) hx d_La_law_697 rfl rfl ?_
  refine g_iconst (q := 700) (v := nI 1) hx d_La_law_699 rfl (by decide) ?_
  refine g_iadd (q := 701) hx d_La_law_700 rfl (nI_add _ _) ?_
  refine g_sld (q := 702) (i + 1) hx hX d_La_law_701 rfl rfl (by omega) ?_
  refine g_aload_n (q := 703) hx d_La_law_702 rfl rfl ?_
  obtain ⟨cd, r, V', hcd, ⟨δ, e, hδ1, hδ2, hA⟩, ⟨d9, hd9, hB⟩⟩ := o_unpack (zll f.1) hl E Γ x m o V hI.1.o hG.1 hG.2.1 (xs (i + 1))
  refine g_cik (q := 706) (zrunW hx d_La_law_703 lw_La_113 rfl rfl (Nat.le_of_ble_eq_true rfl) (by decide) (by first | omega | (dsimp only; omega)) (by first | omega | (dsimp only; omega)) (hA n _ hI.1)) rfl (fun r5 M1 p1 => ?_)
  obtain ⟨rfl, hk3, hP1, ho1⟩ := p1
  obtain ⟨hq1, hQ1⟩ := hI.a hG hk3
  refine g_istore (q := 708) (lc' := [(5, _), (4, _), (3, _), (2, _), (1, _), (0, _)]) hx d_La_law_706 rfl (by decide) rfl ?_
  refine g_aload_n (q := 709) hx d_La_law_708 rfl rfl ?_
  refine g_aload_n (q := 710) hx d_La_law_709 rfl rfl ?_
  refine g_iload (q := 712) hx d_La_law_710 rfl rfl ?_
  refine g_iconst (q := 713) (v := nI 1) hx d_La_law_712 rfl (by decide) ?_
  refine g_iadd (q := 714) hx d_La_law_713 rfl (nI_add _ _) ?_
  refine g_sld (q := 715) (i + 1) hx hX d_La_law_714 rfl rfl (by omega) ?_
  refine g_ci (q := 718) (zrunV hx d_La_law_715 lk_La_115 rfl rfl hq1.g0 rfl rfl (Nat.le_of_ble_eq_true rfl) (by omega) (by first | omega | (dsimp only; omega)) (by first | omega | (dsimp only; omega)) (hB _ _ hq1 hQ1)) rfl (fun r6 M2 p2 => ?_)
  obtain ⟨hv2, ht2, hkm, hQ2⟩ := p2
  have hq2 : qX Γ M2.2.2 m := by rw [hkm.1]; exact hq1
  refine g_istore (q := 720) (lc' := [(6, _), (5, _), (4, _), (3, _), (2, _), (1, _), (0, _)]) hx d_La_law_718 rfl (by decide) rfl ?_
  refine g_aload_n (q := 721) hx d_La_law_720 rfl rfl ?_
  refine g_ci (q := 724) (zrunV hx d_La_law_721 lk_La_63 rfl rfl hq2.g0 rfl rfl (Nat.le_of_ble_eq_true rfl) (by decide) (by first | omega | (dsimp only; omega)) (by first | omega | (dsimp only; omega)) (c_Mo_thrown _ E Γ _ _ m hq2)) rfl (fun r7 M3 p3 => ?_)
  obtain ⟨rfl, e3⟩ := p3
  subst e3
  refine g_iload (q := 726) hx d_La_law_724 rfl rfl ?_
  refine g_icmp_eq (q := 729) (t := 731) hx d_La_law_726 rfl rfl Iff.rfl (fun h726 => ?_) (fun h726 => ?_)
  · refine g_iload (q := 733) hx d_La_law_731 rfl rfl ?_
    refine g_if_ne (q := 736) (t := 748) hx d_La_law_733 rfl rfl (zb_ne0 (by omega)) (fun h733 => ?_) (fun h733 => ?_)
    · refine g_goto (q := 807) hx d_La_law_748 rfl ?_
      refine z_perm (lc' := [(4, .int (nI i)), (3, .ref o), (2, .ref m), (1, .ref x), (0, .ref b)]) (fun q hq => by simp only [List.mem_cons, List.not_mem_nil, or_false] at hq ⊢; rcases hq with h | h | h | h | h <;> simp [h]) ?_
      exact kk9 _ _ _ V' (lI.b hG hP1 hq1 hkm hQ2) (by first | omega | (dsimp only; omega)) (by first | omega | (dsimp only; omega))
    · have hcd0 : cd = 0 := Decidable.byContradiction h733
      refine g_aload_n (q := 737) hx d_La_law_736 rfl rfl ?_
      refine g_iconst (q := 738) (v := nI 0) hx d_La_law_737 rfl (by decide) ?_
      refine g_lald (q := 739) (x := r.toInt64) hx d_La_law_738 rfl hG.2.1 rfl (by decide) (by decide) ((hkm.o hG 0).trans (ho1 hcd0)) ?_
      refine g_iload (q := 741) hx d_La_law_739 rfl rfl ?_
      refine g_i2l (q := 742) hx d_La_law_741 rfl rfl ?_
      refine g_lcmp (q := 743) hx d_La_law_742 rfl ?_
      refine g_if_eq (q := 746) (t := 748) hx d_La_law_743 rfl rfl Iff.rfl (fun h743 => ?_) (fun h743 => ?_)
      · refine g_goto (q := 807) hx d_La_law_748 rfl ?_
        refine z_perm (lc' := [(4, .int (nI i)), (3, .ref o), (2, .ref m), (1, .ref x), (0, .ref b)]) (fun q hq => by simp only [List.mem_cons, List.not_mem_nil, or_false] at hq ⊢; rcases hq with h | h | h | h | h <;> simp [h]) ?_
        exact kk9 _ _ _ V' (lI.b hG hP1 hq1 hkm hQ2) (by first | omega | (dsimp only; omega)) (by first | omega | (dsimp only; omega))
      · exact absurd (by rw [hv2 hcd0]; exact lg_cmp_self _) h743
  · exact absurd ht2 h726
set_option maxHeartbeats 4000000 in
set_option maxRecDepth 100000 in
theorem l_depth {f : zF} {E : zE} {kk : Nat × Nat} (hx : zOk f E Y_La_law 9 kk) (hl : (zll f.1).stackTraces = false) {b L : Nat} {xs : Nat → Int32} (hX : zX0 f E b L xs) {Γ : zG} {x m o : Nat} (hG : lG Γ x m o) (n : Nat) (k : Nat × Nat) (M : zM) (V : sV) (hI : lI Γ x m M V) (i : Nat) (hi : i + 4 ≤ L) (hk1 : k.1 + 1 ≤ kk.1) (hk2 : k.2 + 6 ≤ kk.2) (kk9 : lN9 f E Γ x m k [(4, .int (nI i)), (3, .ref o), (2, .ref m), (1, .ref x), (0, .ref b)]) : zGo f E Γ n k M 751 [(4, .int (nI i)), (3, .ref o), (2, .ref m), (1, .ref x), (0, .ref b)] [] := by
  have hL := hX.2.2.2
  refine g_aload_n (q := 752) hx d_La_law_751 rfl rfl ?_
  refine g_aload_n (q := 753) hx d_La_law_752 rfl rfl ?_
  refine g_iload (q := 755) hx d_La_law_753 rfl rfl ?_
  refine g_iconst (q := 756) (v := nI 1) hx d_La_law_755 rfl (by decide) ?_
  refine g_iadd (q := 757) hx d_La_law_756 rfl (nI_add _ _) ?_
  refine g_sld (q := 758) (i + 1) hx hX d_La_law_757 rfl rfl (by omega) ?_
  refine g_aload_n (q := 759) hx d_La_law_758 rfl rfl ?_
  obtain ⟨cd, r, V', hcd, ⟨δ, e, hδ1, hδ2, hA⟩, ⟨d9, hd9, hB⟩⟩ := o_depth (zll f.1) hl E Γ x m o V hI.1.o hG.1 hG.2.1 (xs (i + 1))
  refine g_cik (q := 762) (zrunW hx d_La_law_759 lw_La_116 rfl rfl (Nat.le_of_ble_eq_true rfl) (by decide) (by first | omega | (dsimp only; omega)) (by first | omega | (dsimp only; omega)) (hA n _ hI.1)) rfl (fun r5 M1 p1 => ?_)
  obtain ⟨rfl, hk3, hP1, ho1⟩ := p1
  obtain ⟨hq1, hQ1⟩ := hI.a hG hk3
  refine g_istore (q := 764) (lc' := [(5, _), (4, _), (3, _), (2, _), (1, _), (0, _)]) hx d_La_law_762 rfl (by decide) rfl ?_
  refine g_aload_n (q := 765) hx d_La_law_764 rfl rfl ?_
  refine g_aload_n (q := 766) hx d_La_law_765 rfl rfl ?_
  refine g_iload (q := 768) hx d_La_law_766 rfl rfl ?_
  refine g_iconst (q := 769) (v := nI 1) hx d_La_law_768 rfl (by decide) ?_
  refine g_iadd (q := 770) hx d_La_law_769 rfl (nI_add _ _) ?_
  refine g_sld (q := 771) (i + 1) hx hX d_La_law_770 rfl rfl (by omega) ?_
  refine g_ci (q := 774) (zrunV hx d_La_law_771 lk_La_118 rfl rfl hq1.g0 rfl rfl (Nat.le_of_ble_eq_true rfl) (by omega) (by first | omega | (dsimp only; omega)) (by first | omega | (dsimp only; omega)) (hB _ _ hq1 hQ1)) rfl (fun r6 M2 p2 => ?_)
  obtain ⟨hv2, ht2, hkm, hQ2⟩ := p2
  have hq2 : qX Γ M2.2.2 m := by rw [hkm.1]; exact hq1
  refine g_istore (q := 776) (lc' := [(6, _), (5, _), (4, _), (3, _), (2, _), (1, _), (0, _)]) hx d_La_law_774 rfl (by decide) rfl ?_
  refine g_aload_n (q := 777) hx d_La_law_776 rfl rfl ?_
  refine g_ci (q := 780) (zrunV hx d_La_law_777 lk_La_63 rfl rfl hq2.g0 rfl rfl (Nat.le_of_ble_eq_true rfl) (by decide) (by first | omega | (dsimp only; omega)) (by first | omega | (dsimp only; omega)) (c_Mo_thrown _ E Γ _ _ m hq2)) rfl (fun r7 M3 p3 => ?_)
  obtain ⟨rfl, e3⟩ := p3
  subst e3
  refine g_iload (q := 782) hx d_La_law_780 rfl rfl ?_
  refine g_icmp_eq (q := 785) (t := 787) hx d_La_law_782 rfl rfl Iff.rfl (fun h782 => ?_) (fun h782 => ?_)
  · refine g_iload (q := 789) hx d_La_law_787 rfl rfl ?_
    refine g_if_ne (q := 792) (t := 804) hx d_La_law_789 rfl rfl (zb_ne0 (by omega)) (fun h789 => ?_) (fun h789 => ?_)
    · refine g_goto (q := 807) hx d_La_law_804 rfl ?_
      refine z_perm (lc' := [(4, .int (nI i)), (3, .ref o), (2, .ref m), (1, .ref x), (0, .ref b)]) (fun q hq => by simp only [List.mem_cons, List.not_mem_nil, or_false] at hq ⊢; rcases hq with h | h | h | h | h <;> simp [h]) ?_
      exact kk9 _ _ _ V' (lI.b hG hP1 hq1 hkm hQ2) (by first | omega | (dsimp only; omega)) (by first | omega | (dsimp only; omega))
    · have hcd0 : cd = 0 := Decidable.byContradiction h789
      refine g_aload_n (q := 793) hx d_La_law_792 rfl rfl ?_
      refine g_iconst (q := 794) (v := nI 0) hx d_La_law_793 rfl (by decide) ?_
      refine g_lald (q := 795) (x := r.toInt64) hx d_La_law_794 rfl hG.2.1 rfl (by decide) (by decide) ((hkm.o hG 0).trans (ho1 hcd0)) ?_
      refine g_iload (q := 797) hx d_La_law_795 rfl rfl ?_
      refine g_i2l (q := 798) hx d_La_law_797 rfl rfl ?_
      refine g_lcmp (q := 799) hx d_La_law_798 rfl ?_
      refine g_if_eq (q := 802) (t := 804) hx d_La_law_799 rfl rfl Iff.rfl (fun h799 => ?_) (fun h799 => ?_)
      · refine g_goto (q := 807) hx d_La_law_804 rfl ?_
        refine z_perm (lc' := [(4, .int (nI i)), (3, .ref o), (2, .ref m), (1, .ref x), (0, .ref b)]) (fun q hq => by simp only [List.mem_cons, List.not_mem_nil, or_false] at hq ⊢; rcases hq with h | h | h | h | h <;> simp [h]) ?_
        exact kk9 _ _ _ V' (lI.b hG hP1 hq1 hkm hQ2) (by first | omega | (dsimp only; omega)) (by first | omega | (dsimp only; omega))
      · exact absurd (by rw [hv2 hcd0]; exact lg_cmp_self _) h799
  · exact absurd ht2 h782
set_option maxHeartbeats 4000000 in
set_option maxRecDepth 100000 in
theorem l_reads {f : zF} {E : zE} {kk : Nat × Nat} (hx : zOk f E Y_La_law 9 kk) (hl : (zll f.1).stackTraces = false) {b L : Nat} {xs : Nat → Int32} (hX : zX0 f E b L xs) {Γ : zG} {x m o : Nat} (hG : lG Γ x m o) (n : Nat) (k : Nat × Nat) (M : zM) (V : sV) (hI : lI Γ x m M V) (i : Nat) (hi : i + 4 ≤ L) (hk1 : k.1 + 1 ≤ kk.1) (hk2 : k.2 + 6 ≤ kk.2) (kk9 : lN9 f E Γ x m k [(4, .int (nI i)), (3, .ref o), (2, .ref m), (1, .ref x), (0, .ref b)]) : zGo f E Γ n k M 347 [(4, .int (nI i)), (3, .ref o), (2, .ref m), (1, .ref x), (0, .ref b)] [] := by
  refine g_aload_n (q := 348) hx d_La_law_347 rfl rfl ?_
  obtain ⟨r, V', ⟨d8, hd8, hA⟩, ⟨d9, hd9, hB⟩⟩ := o_reads (zll f.1) E Γ x m V
  refine g_ci (q := 351) (zrunV hx d_La_law_348 lk_La_83 rfl rfl hG.1 rfl rfl (Nat.le_of_ble_eq_true rfl) (by omega) (by first | omega | (dsimp only; omega)) (by first | omega | (dsimp only; omega)) (hA n _ hI.1)) rfl (fun r5 M1 p1 => ?_)
  obtain ⟨rfl, hk3, hP1⟩ := p1
  obtain ⟨hq1, hQ1⟩ := hI.a hG hk3.y
  refine g_aload_n (q := 352) hx d_La_law_351 rfl rfl ?_
  refine g_ci (q := 355) (zrunV hx d_La_law_352 lk_La_86 rfl rfl hq1.g0 rfl rfl (Nat.le_of_ble_eq_true rfl) (by omega) (by first | omega | (dsimp only; omega)) (by first | omega | (dsimp only; omega)) (hB _ _ hq1 hQ1)) rfl (fun r6 M2 p2 => ?_)
  obtain ⟨e6, hkm, hQ2⟩ := p2
  subst e6
  refine g_icmp_eq (q := 358) (t := 807) hx d_La_law_355 rfl rfl Iff.rfl (fun h9 => ?_) (fun h9 => ?_)
  · exact kk9 _ _ _ V' (lI.b hG hP1 hq1 hkm hQ2) (by first | omega | (dsimp only; omega)) (by first | omega | (dsimp only; omega))
  · exact absurd rfl h9
set_option maxHeartbeats 4000000 in
set_option maxRecDepth 100000 in
theorem l_pack {f : zF} {E : zE} {kk : Nat × Nat} (hx : zOk f E Y_La_law 9 kk) (hl : (zll f.1).stackTraces = false) {b L : Nat} {xs : Nat → Int32} (hX : zX0 f E b L xs) {Γ : zG} {x m o : Nat} (hG : lG Γ x m o) (n : Nat) (k : Nat × Nat) (M : zM) (V : sV) (hI : lI Γ x m M V) (i : Nat) (hi : i + 4 ≤ L) (hk1 : k.1 + 1 ≤ kk.1) (hk2 : k.2 + 6 ≤ kk.2) (kk9 : lN9 f E Γ x m k [(4, .int (nI i)), (3, .ref o), (2, .ref m), (1, .ref x), (0, .ref b)]) : zGo f E Γ n k M 552 [(4, .int (nI i)), (3, .ref o), (2, .ref m), (1, .ref x), (0, .ref b)] [] := by
  refine g_aload_n (q := 553) hx d_La_law_552 rfl rfl ?_
  obtain ⟨r, V', ⟨d8, hd8, hA⟩, ⟨d9, hd9, hB⟩⟩ := o_pack (zll f.1) E Γ x m V
  refine g_ci (q := 556) (zrunV hx d_La_law_553 lk_La_94 rfl rfl hG.1 rfl rfl (Nat.le_of_ble_eq_true rfl) (by omega) (by first | omega | (dsimp only; omega)) (by first | omega | (dsimp only; omega)) (hA n _ hI.1)) rfl (fun r5 M1 p1 => ?_)
  obtain ⟨rfl, hk3, hP1⟩ := p1
  obtain ⟨hq1, hQ1⟩ := hI.a hG hk3.y
  refine g_aload_n (q := 557) hx d_La_law_556 rfl rfl ?_
  refine g_ci (q := 560) (zrunV hx d_La_law_557 lk_La_97 rfl rfl hq1.g0 rfl rfl (Nat.le_of_ble_eq_true rfl) (by omega) (by first | omega | (dsimp only; omega)) (by first | omega | (dsimp only; omega)) (hB _ _ hq1 hQ1)) rfl (fun r6 M2 p2 => ?_)
  obtain ⟨e6, hkm, hQ2⟩ := p2
  subst e6
  refine g_icmp_eq (q := 563) (t := 807) hx d_La_law_560 rfl rfl Iff.rfl (fun h9 => ?_) (fun h9 => ?_)
  · exact kk9 _ _ _ V' (lI.b hG hP1 hq1 hkm hQ2) (by first | omega | (dsimp only; omega)) (by first | omega | (dsimp only; omega))
  · exact absurd rfl h9
set_option maxHeartbeats 4000000 in
set_option maxRecDepth 100000 in
theorem l_blocks {f : zF} {E : zE} {kk : Nat × Nat} (hx : zOk f E Y_La_law 9 kk) (hl : (zll f.1).stackTraces = false) {b L : Nat} {xs : Nat → Int32} (hX : zX0 f E b L xs) {Γ : zG} {x m o : Nat} (hG : lG Γ x m o) (n : Nat) (k : Nat × Nat) (M : zM) (V : sV) (hI : lI Γ x m M V) (i : Nat) (hi : i + 4 ≤ L) (hk1 : k.1 + 1 ≤ kk.1) (hk2 : k.2 + 6 ≤ kk.2) (kk9 : lN9 f E Γ x m k [(4, .int (nI i)), (3, .ref o), (2, .ref m), (1, .ref x), (0, .ref b)]) : zGo f E Γ n k M 565 [(4, .int (nI i)), (3, .ref o), (2, .ref m), (1, .ref x), (0, .ref b)] [] := by
  refine g_aload_n (q := 566) hx d_La_law_565 rfl rfl ?_
  obtain ⟨r, V', ⟨d8, hd8, hA⟩, ⟨d9, hd9, hB⟩⟩ := o_blocks (zll f.1) E Γ x m V
  refine g_ci (q := 569) (zrunV hx d_La_law_566 lk_La_98 rfl rfl hG.1 rfl rfl (Nat.le_of_ble_eq_true rfl) (by omega) (by first | omega | (dsimp only; omega)) (by first | omega | (dsimp only; omega)) (hA n _ hI.1)) rfl (fun r5 M1 p1 => ?_)
  obtain ⟨rfl, hk3, hP1⟩ := p1
  obtain ⟨hq1, hQ1⟩ := hI.a hG hk3.y
  refine g_aload_n (q := 570) hx d_La_law_569 rfl rfl ?_
  refine g_ci (q := 573) (zrunV hx d_La_law_570 lk_La_101 rfl rfl hq1.g0 rfl rfl (Nat.le_of_ble_eq_true rfl) (by omega) (by first | omega | (dsimp only; omega)) (by first | omega | (dsimp only; omega)) (hB _ _ hq1 hQ1)) rfl (fun r6 M2 p2 => ?_)
  obtain ⟨e6, hkm, hQ2⟩ := p2
  subst e6
  refine g_icmp_eq (q := 576) (t := 807) hx d_La_law_573 rfl rfl Iff.rfl (fun h9 => ?_) (fun h9 => ?_)
  · exact kk9 _ _ _ V' (lI.b hG hP1 hq1 hkm hQ2) (by first | omega | (dsimp only; omega)) (by first | omega | (dsimp only; omega))
  · exact absurd rfl h9
set_option maxHeartbeats 4000000 in
set_option maxRecDepth 100000 in
theorem l_size {f : zF} {E : zE} {kk : Nat × Nat} (hx : zOk f E Y_La_law 9 kk) (hl : (zll f.1).stackTraces = false) {b L : Nat} {xs : Nat → Int32} (hX : zX0 f E b L xs) {Γ : zG} {x m o : Nat} (hG : lG Γ x m o) (n : Nat) (k : Nat × Nat) (M : zM) (V : sV) (hI : lI Γ x m M V) (i : Nat) (hi : i + 4 ≤ L) (hk1 : k.1 + 1 ≤ kk.1) (hk2 : k.2 + 6 ≤ kk.2) (kk9 : lN9 f E Γ x m k [(4, .int (nI i)), (3, .ref o), (2, .ref m), (1, .ref x), (0, .ref b)]) : zGo f E Γ n k M 578 [(4, .int (nI i)), (3, .ref o), (2, .ref m), (1, .ref x), (0, .ref b)] [] := by
  refine g_aload_n (q := 579) hx d_La_law_578 rfl rfl ?_
  obtain ⟨r, V', ⟨d8, hd8, hA⟩, ⟨d9, hd9, hB⟩⟩ := o_size (zll f.1) E Γ x m V
  refine g_ci (q := 582) (zrunV hx d_La_law_579 lk_La_102 rfl rfl hG.1 rfl rfl (Nat.le_of_ble_eq_true rfl) (by omega) (by first | omega | (dsimp only; omega)) (by first | omega | (dsimp only; omega)) (hA n _ hI.1)) rfl (fun r5 M1 p1 => ?_)
  obtain ⟨rfl, hk3, hP1⟩ := p1
  obtain ⟨hq1, hQ1⟩ := hI.a hG hk3.y
  refine g_aload_n (q := 583) hx d_La_law_582 rfl rfl ?_
  refine g_ci (q := 586) (zrunV hx d_La_law_583 lk_La_105 rfl rfl hq1.g0 rfl rfl (Nat.le_of_ble_eq_true rfl) (by omega) (by first | omega | (dsimp only; omega)) (by first | omega | (dsimp only; omega)) (hB _ _ hq1 hQ1)) rfl (fun r6 M2 p2 => ?_)
  obtain ⟨e6, hkm, hQ2⟩ := p2
  subst e6
  refine g_icmp_eq (q := 589) (t := 807) hx d_La_law_586 rfl rfl Iff.rfl (fun h9 => ?_) (fun h9 => ?_)
  · exact kk9 _ _ _ V' (lI.b hG hP1 hq1 hkm hQ2) (by first | omega | (dsimp only; omega)) (by first | omega | (dsimp only; omega))
  · exact absurd rfl h9
set_option maxHeartbeats 4000000 in
set_option maxRecDepth 100000 in
theorem l_clear {f : zF} {E : zE} {kk : Nat × Nat} (hx : zOk f E Y_La_law 9 kk) (hl : (zll f.1).stackTraces = false) {b L : Nat} {xs : Nat → Int32} (hX : zX0 f E b L xs) {Γ : zG} {x m o : Nat} (hG : lG Γ x m o) (n : Nat) (k : Nat × Nat) (M : zM) (V : sV) (hI : lI Γ x m M V) (i : Nat) (hi : i + 4 ≤ L) (hk1 : k.1 + 1 ≤ kk.1) (hk2 : k.2 + 6 ≤ kk.2) (kk9 : lN9 f E Γ x m k [(4, .int (nI i)), (3, .ref o), (2, .ref m), (1, .ref x), (0, .ref b)]) : zGo f E Γ n k M 180 [(4, .int (nI i)), (3, .ref o), (2, .ref m), (1, .ref x), (0, .ref b)] [] := by
  have hL := hX.2.2.2
  by_cases hz : xs (i + 1) = 0
  · refine g_aload_n (q := 181) hx d_La_law_180 rfl rfl ?_
    refine g_aload_n (q := 182) hx d_La_law_181 rfl rfl ?_
    refine g_iload (q := 184) hx d_La_law_182 rfl rfl ?_
    refine g_iconst (q := 185) (v := nI 1) hx d_La_law_184 rfl (by decide) ?_
    refine g_iadd (q := 186) hx d_La_law_185 rfl (nI_add _ _) ?_
    refine g_sld (q := 187) (i + 1) hx hX d_La_law_186 rfl rfl (by omega) ?_
    refine g_if_eq (q := 190) (t := 194) hx d_La_law_187 rfl rfl Iff.rfl (fun h187 => ?_) (fun h187 => ?_)
    · refine g_iconst (q := 195) (v := nI 0) hx d_La_law_194 rfl (by decide) ?_
      obtain ⟨V', hA, hB⟩ := o_clear (zll f.1) E Γ x m V (nI 0)
      refine g_cv (q := 198) (zrunV hx d_La_law_195 lk_La_66 rfl rfl hG.1 rfl rfl (Nat.le_of_ble_eq_true rfl) (by decide) (by first | omega | (dsimp only; omega)) (by first | omega | (dsimp only; omega)) (hA n _ hI.1)) rfl (fun M1 p1 => ?_)
      obtain ⟨hk3, hP1⟩ := p1
      obtain ⟨hq1, hQ1⟩ := hI.a hG hk3.y
      refine g_aload_n (q := 199) hx d_La_law_198 rfl rfl ?_
      refine g_aload_n (q := 200) hx d_La_law_199 rfl rfl ?_
      refine g_iload (q := 202) hx d_La_law_200 rfl rfl ?_
      refine g_iconst (q := 203) (v := nI 1) hx d_La_law_202 rfl (by decide) ?_
      refine g_iadd (q := 204) hx d_La_law_203 rfl (nI_add _ _) ?_
      refine g_sld (q := 205) (i + 1) hx hX d_La_law_204 rfl rfl (by omega) ?_
      refine g_if_eq (q := 208) (t := 212) hx d_La_law_205 rfl rfl Iff.rfl (fun h205 => ?_) (fun h205 => ?_)
      · refine g_iconst (q := 213) (v := nI 0) hx d_La_law_212 rfl (by decide) ?_
        refine g_cv (q := 216) (zrunV hx d_La_law_213 lk_La_70 rfl rfl hq1.g0 rfl rfl (Nat.le_of_ble_eq_true rfl) (by decide) (by first | omega | (dsimp only; omega)) (by first | omega | (dsimp only; omega)) (hB _ _ hq1 hQ1)) rfl (fun M2 p2 => ?_)
        obtain ⟨hkm, hQ2⟩ := p2
        refine g_goto (q := 807) hx d_La_law_216 rfl ?_
        exact kk9 _ _ _ V' (lI.b hG hP1 hq1 hkm hQ2) (by first | omega | (dsimp only; omega)) (by first | omega | (dsimp only; omega))
      · exact absurd hz h205
    · exact absurd hz h187
  · refine g_aload_n (q := 181) hx d_La_law_180 rfl rfl ?_
    refine g_aload_n (q := 182) hx d_La_law_181 rfl rfl ?_
    refine g_iload (q := 184) hx d_La_law_182 rfl rfl ?_
    refine g_iconst (q := 185) (v := nI 1) hx d_La_law_184 rfl (by decide) ?_
    refine g_iadd (q := 186) hx d_La_law_185 rfl (nI_add _ _) ?_
    refine g_sld (q := 187) (i + 1) hx hX d_La_law_186 rfl rfl (by omega) ?_
    refine g_if_eq (q := 190) (t := 194) hx d_La_law_187 rfl rfl Iff.rfl (fun h187 => ?_) (fun h187 => ?_)
    · exact absurd h187 hz
    · refine g_iconst (q := 191) (v := nI 1) hx d_La_law_190 rfl (by decide) ?_
      refine g_goto (q := 195) hx d_La_law_191 rfl ?_
      obtain ⟨V', hA, hB⟩ := o_clear (zll f.1) E Γ x m V (nI 1)
      refine g_cv (q := 198) (zrunV hx d_La_law_195 lk_La_66 rfl rfl hG.1 rfl rfl (Nat.le_of_ble_eq_true rfl) (by decide) (by first | omega | (dsimp only; omega)) (by first | omega | (dsimp only; omega)) (hA n _ hI.1)) rfl (fun M1 p1 => ?_)
      obtain ⟨hk3, hP1⟩ := p1
      obtain ⟨hq1, hQ1⟩ := hI.a hG hk3.y
      refine g_aload_n (q := 199) hx d_La_law_198 rfl rfl ?_
      refine g_aload_n (q := 200) hx d_La_law_199 rfl rfl ?_
      refine g_iload (q := 202) hx d_La_law_200 rfl rfl ?_
      refine g_iconst (q := 203) (v := nI 1) hx d_La_law_202 rfl (by decide) ?_
      refine g_iadd (q := 204) hx d_La_law_203 rfl (nI_add _ _) ?_
      refine g_sld (q := 205) (i + 1) hx hX d_La_law_204 rfl rfl (by omega) ?_
      refine g_if_eq (q := 208) (t := 212) hx d_La_law_205 rfl rfl Iff.rfl (fun h205 => ?_) (fun h205 => ?_)
      · exact absurd h205 hz
      · refine g_iconst (q := 209) (v := nI 1) hx d_La_law_208 rfl (by decide) ?_
        refine g_goto (q := 213) hx d_La_law_209 rfl ?_
        refine g_cv (q := 216) (zrunV hx d_La_law_213 lk_La_70 rfl rfl hq1.g0 rfl rfl (Nat.le_of_ble_eq_true rfl) (by decide) (by first | omega | (dsimp only; omega)) (by first | omega | (dsimp only; omega)) (hB _ _ hq1 hQ1)) rfl (fun M2 p2 => ?_)
        obtain ⟨hkm, hQ2⟩ := p2
        refine g_goto (q := 807) hx d_La_law_216 rfl ?_
        exact kk9 _ _ _ V' (lI.b hG hP1 hq1 hkm hQ2) (by first | omega | (dsimp only; omega)) (by first | omega | (dsimp only; omega))
