/-! each operation on both sides: the same answer, and the same state after it -/
abbrev sV : Type := (Nat × Nat) × (Nat × Nat × Nat × Nat × Nat) × ((Nat → Nat) × (Nat → Nat)) × ((Nat → mRd) × (Nat → mRd) × mRd)
def PI (Γ : zG) (M : zM) (x : Nat) (V : sV) : Prop := pI Γ M x V.1.1 V.1.2 V.2.1.1 V.2.1.2.1 V.2.1.2.2.1 V.2.1.2.2.2.1 V.2.1.2.2.2.2 V.2.2.1.1 V.2.2.1.2 V.2.2.2.1 V.2.2.2.2.1 V.2.2.2.2.2
def QI (M : zM) (m : Nat) (V : sV) : Prop := qI M m V.2.1.1 V.2.1.2.1 V.2.1.2.2.1 V.2.1.2.2.2.1 V.2.1.2.2.2.2 V.2.2.1.1 V.2.2.1.2 V.2.2.2.1 V.2.2.2.2.1 V.2.2.2.2.2
def sO (V : sV) : Prop := V.2.1.2.1 ≤ 24 ∧ V.2.1.2.2.1 ≤ 1
theorem PI.o {Γ : zG} {M : zM} {x : Nat} {V : sV} (h : PI Γ M x V) : sO V := ⟨h.2.2.1.2, h.2.2.2.2.1.2⟩
def kY (x o : Nat) (M M' : zM) : Prop := ∀ a, (a < x ∨ x + 141 < a) → a ≠ o → M'.1 a = M.1 a ∧ M'.2.1 a = M.2.1 a ∧ M'.2.2 a = M.2.2 a
theorem kX.y {x o : Nat} {M M' : zM} (h : kX x M M') : kY x o M M' := fun a ha _ => h a ha
theorem kX.yl {x o : Nat} {M M' : zM} {v : Int64} (h : kX x M M') : kY x o M (zsl M' o 0 v) := fun a ha hn => ⟨(h a ha).1, (va_up_ne _ _ hn).trans (h a ha).2.1, (h a ha).2.2⟩
theorem PI.l {Γ : zG} {M : zM} {x o : Nat} {V : sV} {v : Int64} (h : PI Γ M x V) : PI Γ (zsl M o 0 v) x V := pI.cg (M := M) (M' := zsl M o 0 v) h (fun _ _ _ => ⟨rfl, rfl⟩)
theorem zCw.mono {l : Launch} {E : zE} {Y : zY} {hh : List (Nat × Nat × Nat × Nat)} {d : Nat} {kk : Nat × Nat} {av : List Value} {Γ : zG} {n : Nat} {M : zM} {post post' : zP} (h : zCw l E Y hh d kk av Γ n M post) (hp : ∀ v Γ' n' M', post v Γ' n' M' → post' v Γ' n' M') : zCw l E Y hh d kk av Γ n M post' := by
  intro p e ha hc hk s m args below h1 h2 h3 h4
  obtain ⟨k, o, g1, g2, g3, ⟨⟨⟨v, Γ', n', M', e1, e2, e3⟩, e4⟩, e5⟩⟩ := h p e ha hc hk s m args below h1 h2 h3 h4
  exact ⟨k, o, g1, g2, g3, ⟨⟨⟨v, Γ', n', M', e1, hp _ _ _ _ e2, e3⟩, e4⟩, e5⟩⟩
/-- the program's side: an answer, or a refusal -/
def oA (l : Launch) (E : zE) (Γ : zG) (x o : Nat) (V V' : sV) (Y : zY) (hh : List (Nat × Nat × Nat × Nat)) (av : List Value) (cd : Nat) (r : Int32) : Prop :=
  ∃ (δ : Nat × Nat) (e : Nat), δ.1 ≤ 1 ∧ δ.2 ≤ 6 ∧ ∀ n M, PI Γ M x V → zCw l E Y hh 8 δ av Γ n M (zPi Γ (n + e) (fun v M' => v = nI cd ∧ kY x o M M' ∧ PI Γ M' x V' ∧ (cd = 0 → zl M' o 0 = r.toInt64)))
/-- the reference's side -/
def oB (l : Launch) (E : zE) (Γ : zG) (m : Nat) (V V' : sV) (Y : zY) (av : List Value) (cd : Nat) (r : Int32) : Prop :=
  ∃ d : Nat, d ≤ 6 ∧ ∀ n M, qX Γ M.2.2 m → QI M m V → zCt l E Y d (0, 0) av Γ n M (zPi Γ n (fun v M' => (cd = 0 → v = r) ∧ zi M' m 0 = nI cd ∧ kM m M M' ∧ QI M' m V'))
def oP (l : Launch) (E : zE) (Γ : zG) (x m o : Nat) (V : sV) (Ya : zY) (hh : List (Nat × Nat × Nat × Nat)) (aa : List Value) (Ym : zY) (ma : List Value) : Prop :=
  ∃ (cd : Nat) (r : Int32) (V' : sV), cd ≤ 3 ∧ oA l E Γ x o V V' Ya hh aa cd r ∧ oB l E Γ m V V' Ym ma cd r
/-- the same where nothing is answered -/
def oAv (l : Launch) (E : zE) (Γ : zG) (x o : Nat) (V V' : sV) (Y : zY) (hh : List (Nat × Nat × Nat × Nat)) (av : List Value) (cd : Nat) : Prop :=
  ∃ (δ : Nat × Nat) (e : Nat), δ.1 ≤ 1 ∧ δ.2 ≤ 6 ∧ ∀ n M, PI Γ M x V → zCw l E Y hh 8 δ av Γ n M (zPi Γ (n + e) (fun v M' => v = nI cd ∧ kY x o M M' ∧ PI Γ M' x V'))
def oBv (l : Launch) (E : zE) (Γ : zG) (m : Nat) (V V' : sV) (Y : zY) (av : List Value) (cd : Nat) : Prop :=
  ∃ d : Nat, d ≤ 6 ∧ ∀ n M, qX Γ M.2.2 m → QI M m V → zCt l E Y d (0, 0) av Γ n M (zPv Γ n (fun M' => zi M' m 0 = nI cd ∧ kM m M M' ∧ QI M' m V'))
def oPv (l : Launch) (E : zE) (Γ : zG) (x m o : Nat) (V : sV) (Ya : zY) (hh : List (Nat × Nat × Nat × Nat)) (aa : List Value) (Ym : zY) (ma : List Value) : Prop :=
  ∃ (cd : Nat) (V' : sV), cd ≤ 3 ∧ oAv l E Γ x o V V' Ya hh aa cd ∧ oBv l E Γ m V V' Ym ma cd
section ZOP
variable {l : Launch} {E : zE} {Γ : zG} {x m o : Nat} {V V' : sV} {Y : zY} {hh : List (Nat × Nat × Nat × Nat)} {av : List Value} {cd : Nat} {r : Int32}
theorem oA.rr (h : ∀ n M, PI Γ M x V → zCw l E Y hh 8 (0, 0) av Γ n M (zPi Γ n (fun v M' => v = nI 0 ∧ ∃ M1, (kX x M M1 ∧ PI Γ M1 x V') ∧ M' = zsl M1 o 0 r.toInt64))) : oA l E Γ x o V V' Y hh av 0 r :=
  ⟨(0, 0), 0, Nat.zero_le _, Nat.zero_le _, fun n M hI => (h n M hI).mono (by
    rintro v Γ' n' M' ⟨w, rfl, rfl, rfl, rfl, M1, ⟨h1, h2⟩, rfl⟩
    exact ⟨_, rfl, rfl, rfl, rfl, h1.yl, h2.l, fun _ => zl_s _ _ _ _⟩)⟩
theorem oA.ss (h : ∀ n M, PI Γ M x V → zCw l E Y hh 8 (0, 0) av Γ n M (zPi Γ n (fun v M' => v = nI 0 ∧ ∃ M1, M1 = M ∧ M' = zsl M1 o 0 r.toInt64))) : oA l E Γ x o V V Y hh av 0 r :=
  ⟨(0, 0), 0, Nat.zero_le _, Nat.zero_le _, fun n M hI => (h n M hI).mono (by
    rintro v Γ' n' M' ⟨w, rfl, rfl, rfl, rfl, M1, rfl, rfl⟩
    exact ⟨_, rfl, rfl, rfl, rfl, kX.rf.yl, hI.l, fun _ => zl_s _ _ _ _⟩)⟩
theorem oA.xx (hc : cd ≠ 0) (h : ∀ n M, PI Γ M x V → zCw l E Y hh 8 (1, 6) av Γ n M (zPi Γ (n + 1) (fun v M' => v = nI cd ∧ M' = M))) : oA l E Γ x o V V Y hh av cd r :=
  ⟨(1, 6), 1, Nat.le_refl _, Nat.le_refl _, fun n M hI => (h n M hI).mono (by
    rintro v Γ' n' M' ⟨w, rfl, rfl, rfl, rfl, rfl⟩
    exact ⟨_, rfl, rfl, rfl, rfl, kX.rf.y, hI, fun e => absurd e hc⟩)⟩
theorem oA.yy (hc : cd ≠ 0) (h : ∀ n M, PI Γ M x V → zCw l E Y hh 8 (1, 6) av Γ n M (zPi Γ (n + 1) (fun v M' => v = nI cd ∧ kX x M M' ∧ PI Γ M' x V'))) : oA l E Γ x o V V' Y hh av cd r :=
  ⟨(1, 6), 1, Nat.le_refl _, Nat.le_refl _, fun n M hI => (h n M hI).mono (by
    rintro v Γ' n' M' ⟨w, rfl, rfl, rfl, rfl, h1, h2⟩
    exact ⟨_, rfl, rfl, rfl, rfl, h1.y, h2, fun e => absurd e hc⟩)⟩
theorem oAv.rr (h : ∀ n M, PI Γ M x V → zCw l E Y hh 8 (0, 0) av Γ n M (zPi Γ n (fun v M' => v = nI 0 ∧ kX x M M' ∧ PI Γ M' x V'))) : oAv l E Γ x o V V' Y hh av 0 :=
  ⟨(0, 0), 0, Nat.zero_le _, Nat.zero_le _, fun n M hI => (h n M hI).mono (by
    rintro v Γ' n' M' ⟨w, rfl, rfl, rfl, rfl, h1, h2⟩
    exact ⟨_, rfl, rfl, rfl, rfl, h1.y, h2⟩)⟩
theorem oAv.xx (h : ∀ n M, PI Γ M x V → zCw l E Y hh 8 (1, 6) av Γ n M (zPi Γ (n + 1) (fun v M' => v = nI cd ∧ M' = M))) : oAv l E Γ x o V V Y hh av cd :=
  ⟨(1, 6), 1, Nat.le_refl _, Nat.le_refl _, fun n M hI => (h n M hI).mono (by
    rintro v Γ' n' M' ⟨w, rfl, rfl, rfl, rfl, rfl⟩
    exact ⟨_, rfl, rfl, rfl, rfl, kX.rf.y, hI⟩)⟩
theorem oB.rr (d : Nat) (hd : d ≤ 6) (h : ∀ n M, qX Γ M.2.2 m → QI M m V → zCt l E Y d (0, 0) av Γ n M (zPi Γ n (fun v M' => v = r ∧ zi M' m 0 = nI 0 ∧ kM m M M' ∧ QI M' m V'))) : oB l E Γ m V V' Y av 0 r :=
  ⟨d, hd, fun n M hq hI => (h n M hq hI).mono (by
    rintro v Γ' n' M' ⟨w, rfl, rfl, rfl, rfl, h1, h2⟩
    exact ⟨_, rfl, rfl, rfl, fun _ => rfl, h1, h2⟩)⟩
theorem oB.ss (d : Nat) (hd : d ≤ 6) (h : ∀ n M, qX Γ M.2.2 m → QI M m V → zCt l E Y d (0, 0) av Γ n M (zPi Γ n (fun v M' => v = r ∧ M' = zsi M m 0 (nI 0)))) : oB l E Γ m V V Y av 0 r :=
  ⟨d, hd, fun n M hq hI => (h n M hq hI).mono (by
    rintro v Γ' n' M' ⟨w, rfl, rfl, rfl, rfl, rfl⟩
    exact ⟨_, rfl, rfl, rfl, fun _ => rfl, zi_s _ _ _ _, kM.c0, qI.c0 hI⟩)⟩
theorem oB.xx (d : Nat) (hd : d ≤ 6) (hc : cd ≠ 0) (h : ∀ n M, qX Γ M.2.2 m → QI M m V → zCt l E Y d (0, 0) av Γ n M (zPi Γ n (fun v M' => M' = zsi M m 0 (nI cd)))) : oB l E Γ m V V Y av cd r :=
  ⟨d, hd, fun n M hq hI => (h n M hq hI).mono (by
    rintro v Γ' n' M' ⟨w, rfl, rfl, rfl, rfl⟩
    exact ⟨_, rfl, rfl, rfl, fun e => absurd e hc, zi_s _ _ _ _, kM.c0, qI.c0 hI⟩)⟩
theorem oB.yy (d : Nat) (hd : d ≤ 6) (hc : cd ≠ 0) (h : ∀ n M, qX Γ M.2.2 m → QI M m V → zCt l E Y d (0, 0) av Γ n M (zPi Γ n (fun v M' => zi M' m 0 = nI cd ∧ kM m M M' ∧ QI M' m V'))) : oB l E Γ m V V' Y av cd r :=
  ⟨d, hd, fun n M hq hI => (h n M hq hI).mono (by
    rintro v Γ' n' M' ⟨w, rfl, rfl, rfl, h1, h2⟩
    exact ⟨_, rfl, rfl, rfl, fun e => absurd e hc, h1, h2⟩)⟩
theorem oBv.rr (d : Nat) (hd : d ≤ 6) (h : ∀ n M, qX Γ M.2.2 m → QI M m V → zCt l E Y d (0, 0) av Γ n M (zPv Γ n (fun M' => zi M' m 0 = nI cd ∧ kM m M M' ∧ QI M' m V'))) : oBv l E Γ m V V' Y av cd := ⟨d, hd, h⟩
theorem oBv.xx (d : Nat) (hd : d ≤ 6) (h : ∀ n M, qX Γ M.2.2 m → QI M m V → zCt l E Y d (0, 0) av Γ n M (zPv Γ n (fun M' => M' = zsi M m 0 (nI cd)))) : oBv l E Γ m V V Y av cd :=
  ⟨d, hd, fun n M hq hI => (h n M hq hI).mono (by
    rintro v Γ' n' M' ⟨rfl, rfl, rfl, rfl⟩
    exact ⟨rfl, rfl, rfl, zi_s _ _ _ _, kM.c0, qI.c0 hI⟩)⟩
end ZOP
theorem o_refer (l : Launch) (hl : l.stackTraces = false) (E : zE) (Γ : zG) (x m o : Nat) (V : sV) (hV : sO V) (hg : Γ x = some (0, 6)) (ho : Γ o = some (2, 1)) (w y : Int32) : oP l E Γ x m o V Y_La_refer hh_refer [.ref x, .int w, .int y, .ref o] Y_Mo_refer [.ref m, .int w, .int y] := by
  obtain ⟨⟨sh, sp⟩, ⟨len, c, g, k, size⟩, ⟨ref, arch⟩, fs, hs, ur⟩ := V
  obtain ⟨hc24, hg1⟩ := hV
  dsimp only at hc24 hg1
  by_cases hy : ∃ u : Nat, 1 ≤ u ∧ u ≤ 16 ∧ y = nI u
  · obtain ⟨u, u1, u2, rfl⟩ := hy
    by_cases hcg : 0 < c ∨ g = 1
    · exact ⟨2, 0, ((sh, sp), (len, c, g, k, size), (ref, arch), fs, hs, ur), by decide, oA.xx (by decide) (fun n M hI => w_La_refer2 l E Γ n M x o w _ _ hg (c_Sr_refer2 l hl E Γ n M x sh sp len c g k size ref arch fs hs ur hI w u ⟨u1, u2⟩ hcg)), oB.xx 0 (by decide) (by decide) (fun n M hq hI => c_Mo_refer2 l E Γ n M m len c g k size ref arch fs hs ur hq hI w u ⟨u1, u2⟩ hcg)⟩
    · have hcg : c = 0 ∧ g = 0 := by omega
      by_cases hl9 : len + u ≤ 160
      · exact ⟨0, nI (len + u), ((sh, sp), (len + u, c, g, k, size), (mRf ref len w, arch), fs, hs, ur), by decide, oA.rr (fun n M hI => w_La_refer0 l E Γ n M x o w _ _ hg _ ho (c_Sr_refer0 l E Γ n M x sh sp len c g k size ref arch fs hs ur hI w u ⟨u1, u2⟩ hcg hl9)), oB.rr 0 (by decide) (fun n M hq hI => c_Mo_refer0 l E Γ n M m len c g k size ref arch fs hs ur hq hI w u ⟨u1, u2⟩ hcg hl9)⟩
      · exact ⟨3, 0, ((sh, sp), (len, c, g, k, size), (ref, arch), fs, hs, ur), by decide, oA.xx (by decide) (fun n M hI => w_La_refer3 l E Γ n M x o w _ _ hg (c_Sr_refer3 l hl E Γ n M x sh sp len c g k size ref arch fs hs ur hI w u ⟨u1, u2⟩ hcg (by omega))), oB.xx 0 (by decide) (by decide) (fun n M hq hI => c_Mo_refer3 l E Γ n M m len c g k size ref arch fs hs ur hq hI w u ⟨u1, u2⟩ hcg (by omega))⟩
  · exact ⟨1, 0, ((sh, sp), (len, c, g, k, size), (ref, arch), fs, hs, ur), by decide, oA.xx (by decide) (fun n M hI => w_La_refer1 l E Γ n M x o w y _ hg (c_Sr_refer1 l hl E Γ n M x sh sp len c g k size ref arch fs hs ur hI w y hy)), oB.xx 0 (by decide) (by decide) (fun n M hq hI => c_Mo_refer1 l E Γ n M m len c g k size ref arch fs hs ur hq hI w y hy)⟩
theorem o_start (l : Launch) (hl : l.stackTraces = false) (E : zE) (Γ : zG) (x m o : Nat) (V : sV) (hV : sO V) (hg : Γ x = some (0, 6)) (y : Int32) : oPv l E Γ x m o V Y_La_start hh_start [.ref x, .int y] Y_Mo_start [.ref m, .int y] := by
  obtain ⟨⟨sh, sp⟩, ⟨len, c, g, k, size⟩, ⟨ref, arch⟩, fs, hs, ur⟩ := V
  obtain ⟨hc24, hg1⟩ := hV
  dsimp only at hc24 hg1
  by_cases hy : ∃ u : Nat, 0 ≤ u ∧ u ≤ len ∧ y = nI u
  · obtain ⟨u, -, hu, rfl⟩ := hy
    exact ⟨0, ((sh, sp), (len, c, 1, k, size), (ref, arch), fs, hs, (u, [])), by decide, oAv.rr (fun n M hI => w_La_start0 l E Γ n M x _ _ hg (c_Sr_start0 l E Γ n M x sh sp len c g k size ref arch fs hs ur hI u hu)), oBv.rr 1 (by decide) (fun n M hq hI => c_Mo_start0 l E Γ n M m len c g k size ref arch fs hs ur hq hI u hu)⟩
  · exact ⟨1, ((sh, sp), (len, c, g, k, size), (ref, arch), fs, hs, ur), by decide, oAv.xx (fun n M hI => w_La_start1 l E Γ n M x y _ hg (c_Sr_start1 l hl E Γ n M x sh sp len c g k size ref arch fs hs ur hI y hy)), oBv.xx 1 (by decide) (fun n M hq hI => c_Mo_start1 l E Γ n M m len c g k size ref arch fs hs ur hq hI y hy)⟩
theorem o_edit (l : Launch) (hl : l.stackTraces = false) (E : zE) (Γ : zG) (x m o : Nat) (V : sV) (hV : sO V) (hg : Γ x = some (0, 6)) (y z : Int32) : oPv l E Γ x m o V Y_La_edit hh_edit [.ref x, .int y, .int z] Y_Mo_edit [.ref m, .int y, .int z] := by
  obtain ⟨⟨sh, sp⟩, ⟨len, c, g, k, size⟩, ⟨ref, arch⟩, fs, hs, ur⟩ := V
  obtain ⟨hc24, hg1⟩ := hV
  dsimp only at hc24 hg1
  by_cases hg0 : g = 0
  · exact ⟨1, ((sh, sp), (len, c, g, k, size), (ref, arch), fs, hs, ur), by decide, oAv.xx (fun n M hI => w_La_edit1 l E Γ n M x y z _ hg (c_Sr_edit1 l hl E Γ n M x sh sp len c g k size ref arch fs hs ur hI y z hg0)), oBv.xx 1 (by decide) (fun n M hq hI => c_Mo_edit1 l E Γ n M m len c g k size ref arch fs hs ur hq hI y z hg0)⟩
  · have hg1 : g = 1 := by omega
    by_cases hz : zFit ref len (ur.1 + mPs ur.2) y z
    · obtain ⟨kk, v, hv, rfl, hk, rfl, hz⟩ := hz
      by_cases hz2 : mRoom ur.2 (kk, v)
      · exact ⟨0, ((sh, sp), (len, c, g, k, size), (ref, arch), fs, hs, (ur.1, mAdd ur.2 (kk, v))), by decide, oAv.rr (fun n M hI => w_La_edit0 l E Γ n M x _ _ _ hg (c_Sr_edit0 l E Γ n M x sh sp len c g k size ref arch fs hs ur hI kk v hg1 hk hv hz hz2)), oBv.rr 1 (by decide) (fun n M hq hI => c_Mo_edit0 l E Γ n M m len c g k size ref arch fs hs ur hq hI kk v hg1 hk hv hz hz2)⟩
      · exact ⟨3, ((sh, sp), (len, c, g, k, size), (ref, arch), fs, hs, ur), by decide, oAv.xx (fun n M hI => w_La_edit3 l E Γ n M x _ _ _ hg (c_Sr_edit3 l hl E Γ n M x sh sp len c g k size ref arch fs hs ur hI kk v hg1 hk hv hz hz2)), oBv.xx 1 (by decide) (fun n M hq hI => c_Mo_edit3 l E Γ n M m len c g k size ref arch fs hs ur hq hI kk v hg1 hk hv hz hz2)⟩
    · exact ⟨2, ((sh, sp), (len, c, g, k, size), (ref, arch), fs, hs, ur), by decide, oAv.xx (fun n M hI => w_La_edit2 l E Γ n M x y z _ hg (c_Sr_edit2 l hl E Γ n M x sh sp len c g k size ref arch fs hs ur hI y z hg1 hz)), oBv.xx 1 (by decide) (fun n M hq hI => c_Mo_edit2 l E Γ n M m len c g k size ref arch fs hs ur hq hI y z hg1 hz)⟩
theorem o_finish (l : Launch) (hl : l.stackTraces = false) (E : zE) (Γ : zG) (x m o : Nat) (V : sV) (hV : sO V) (hg : Γ x = some (0, 6)) (ho : Γ o = some (2, 1)) : oP l E Γ x m o V Y_La_finish hh_finish [.ref x, .ref o] Y_Mo_finish [.ref m] := by
  obtain ⟨⟨sh, sp⟩, ⟨len, c, g, k, size⟩, ⟨ref, arch⟩, fs, hs, ur⟩ := V
  obtain ⟨hc24, hg1⟩ := hV
  dsimp only at hc24 hg1
  by_cases hz : g = 1 ∧ 0 < mBc ur.2
  · obtain ⟨hg9, hz⟩ := hz
    by_cases hc : c < 24
    · exact ⟨0, nI c, ((sh, sp), (len, c + 1, 0, k, size), (ref, arch), fun i => if i = c then ur else fs i, hs, ur), by decide, oA.rr (fun n M hI => w_La_finish0 l E Γ n M x o  _ hg _ ho (c_Sr_finish0 l E Γ n M x sh sp len c g k size ref arch fs hs ur hI hg9 hz hc)), oB.rr 1 (by decide) (fun n M hq hI => c_Mo_finish0 l E Γ n M m len c g k size ref arch fs hs ur hq hI hg9 hz hc)⟩
    · exact ⟨2, 0, ((sh, sp), (len, c, g, k, size), (ref, arch), fs, hs, ur), by decide, oA.xx (by decide) (fun n M hI => w_La_finish2 l E Γ n M x o  _ hg (c_Sr_finish2 l hl E Γ n M x sh sp len c g k size ref arch fs hs ur hI hg9 hz (by omega))), oB.xx 1 (by decide) (by decide) (fun n M hq hI => c_Mo_finish2 l E Γ n M m len c g k size ref arch fs hs ur hq hI hg9 hz (by omega))⟩
  · have hz : g = 1 → mBc ur.2 = 0 := fun e => by omega
    exact ⟨1, 0, ((sh, sp), (len, c, g, k, size), (ref, arch), fs, hs, ur), by decide, oA.xx (by decide) (fun n M hI => w_La_finish1 l E Γ n M x o  _ hg (c_Sr_finish1 l hl E Γ n M x sh sp len c g k size ref arch fs hs ur hI hz)), oB.xx 1 (by decide) (by decide) (fun n M hq hI => c_Mo_finish1 l E Γ n M m len c g k size ref arch fs hs ur hq hI hz)⟩
theorem o_about (l : Launch) (hl : l.stackTraces = false) (E : zE) (Γ : zG) (x m o : Nat) (V : sV) (hV : sO V) (hg : Γ x = some (0, 6)) (ho : Γ o = some (2, 1)) (y w z : Int32) : oP l E Γ x m o V Y_La_about hh_about [.ref x, .int y, .int w, .int z, .ref o] Y_Mo_about [.ref m, .int y, .int w, .int z] := by
  obtain ⟨⟨sh, sp⟩, ⟨len, c, g, k, size⟩, ⟨ref, arch⟩, fs, hs, ur⟩ := V
  obtain ⟨hc24, hg1⟩ := hV
  dsimp only at hc24 hg1
  by_cases hy : ∃ u : Nat, u < (if z = 0 then c else k) ∧ y = nI u
  · obtain ⟨u, hu, rfl⟩ := hy
    by_cases hw : ∃ v : Nat, 0 ≤ v ∧ v ≤ 3 ∧ w = nI v
    · obtain ⟨v, -, hv, rfl⟩ := hw
      have h4 : v = 0 ∨ v = 1 ∨ v = 2 ∨ v = 3 := by omega
      rcases h4 with rfl | rfl | rfl | rfl
      · exact ⟨0, nI (mWh (if z = 0 then fs u else hs u) 0), ((sh, sp), (len, c, g, k, size), (ref, arch), fs, hs, ur), by decide, oA.ss (fun n M hI => w_La_about0 l E Γ n M x o _ _ z _ hg _ ho (c_Sr_about00 l E Γ n M x sh sp len c g k size ref arch fs hs ur hI u z hu)), oB.ss 1 (by decide) (fun n M hq hI => c_Mo_about0 l E Γ n M m len c g k size ref arch fs hs ur hq hI u 0 z hu hv)⟩
      · exact ⟨0, nI (mWh (if z = 0 then fs u else hs u) 1), ((sh, sp), (len, c, g, k, size), (ref, arch), fs, hs, ur), by decide, oA.ss (fun n M hI => w_La_about0 l E Γ n M x o _ _ z _ hg _ ho (c_Sr_about01 l E Γ n M x sh sp len c g k size ref arch fs hs ur hI u z hu)), oB.ss 1 (by decide) (fun n M hq hI => c_Mo_about0 l E Γ n M m len c g k size ref arch fs hs ur hq hI u 1 z hu hv)⟩
      · exact ⟨0, nI (mWh (if z = 0 then fs u else hs u) 2), ((sh, sp), (len, c, g, k, size), (ref, arch), fs, hs, ur), by decide, oA.ss (fun n M hI => w_La_about0 l E Γ n M x o _ _ z _ hg _ ho (c_Sr_about02 l E Γ n M x sh sp len c g k size ref arch fs hs ur hI u z hu)), oB.ss 1 (by decide) (fun n M hq hI => c_Mo_about0 l E Γ n M m len c g k size ref arch fs hs ur hq hI u 2 z hu hv)⟩
      · exact ⟨0, nI (mWh (if z = 0 then fs u else hs u) 3), ((sh, sp), (len, c, g, k, size), (ref, arch), fs, hs, ur), by decide, oA.ss (fun n M hI => w_La_about0 l E Γ n M x o _ _ z _ hg _ ho (c_Sr_about03 l E Γ n M x sh sp len c g k size ref arch fs hs ur hI u z hu)), oB.ss 1 (by decide) (fun n M hq hI => c_Mo_about0 l E Γ n M m len c g k size ref arch fs hs ur hq hI u 3 z hu hv)⟩
    · exact ⟨2, 0, ((sh, sp), (len, c, g, k, size), (ref, arch), fs, hs, ur), by decide, oA.xx (by decide) (fun n M hI => w_La_about2 l E Γ n M x o _ w z _ hg (c_Sr_about2 l hl E Γ n M x sh sp len c g k size ref arch fs hs ur hI u w z hu hw)), oB.xx 1 (by decide) (by decide) (fun n M hq hI => c_Mo_about2 l E Γ n M m len c g k size ref arch fs hs ur hq hI u w z hu hw)⟩
  · exact ⟨1, 0, ((sh, sp), (len, c, g, k, size), (ref, arch), fs, hs, ur), by decide, oA.xx (by decide) (fun n M hI => w_La_about1 l E Γ n M x o y w z _ hg (c_Sr_about1 l hl E Γ n M x sh sp len c g k size ref arch fs hs ur hI y w z hy)), oB.xx 1 (by decide) (by decide) (fun n M hq hI => c_Mo_about1 l E Γ n M m len c g k size ref arch fs hs ur hq hI y w z hy)⟩
theorem o_base (l : Launch) (hl : l.stackTraces = false) (E : zE) (Γ : zG) (x m o : Nat) (V : sV) (hV : sO V) (hg : Γ x = some (0, 6)) (ho : Γ o = some (2, 1)) (y w z : Int32) : oP l E Γ x m o V Y_La_base hh_base [.ref x, .int y, .int w, .int z, .ref o] Y_Mo_base [.ref m, .int y, .int w, .int z] := by
  obtain ⟨⟨sh, sp⟩, ⟨len, c, g, k, size⟩, ⟨ref, arch⟩, fs, hs, ur⟩ := V
  obtain ⟨hc24, hg1⟩ := hV
  dsimp only at hc24 hg1
  by_cases hy : ∃ u : Nat, u < (if z = 0 then c else k) ∧ y = nI u
  · obtain ⟨u, hu, rfl⟩ := hy
    obtain ⟨rd, hrd⟩ : ∃ rd : mRd, rd = if z = 0 then fs u else hs u := ⟨_, rfl⟩
    by_cases hw : ∃ v : Nat, v < mBc rd.2 ∧ w = nI v
    · obtain ⟨v, hv, rfl⟩ := hw
      exact ⟨0, nI (mBase ref rd.1 rd.2 v), ((sh, sp), (len, c, g, k, size), (ref, arch), fs, hs, ur), by decide, oA.ss (fun n M hI => w_La_base0 l E Γ n M x o _ _ z _ hg _ ho (c_Sr_base0 l E Γ n M x sh sp len c g k size ref arch fs hs ur hI z u rd hrd hu v hv)), oB.ss 1 (by decide) (fun n M hq hI => c_Mo_base0 l E Γ n M m len c g k size ref arch fs hs ur hq hI z u rd hrd hu v hv)⟩
    · exact ⟨1, 0, ((sh, sp), (len, c, g, k, size), (ref, arch), fs, hs, ur), by decide, oA.xx (by decide) (fun n M hI => w_La_base1 l E Γ n M x o _ w z _ hg (c_Sr_base2 l hl E Γ n M x sh sp len c g k size ref arch fs hs ur hI z u rd hrd hu w hw)), oB.xx 1 (by decide) (by decide) (fun n M hq hI => c_Mo_base2 l E Γ n M m len c g k size ref arch fs hs ur hq hI z u rd hrd hu w hw)⟩
  · exact ⟨1, 0, ((sh, sp), (len, c, g, k, size), (ref, arch), fs, hs, ur), by decide, oA.xx (by decide) (fun n M hI => w_La_base1 l E Γ n M x o y w z _ hg (c_Sr_base1 l hl E Γ n M x sh sp len c g k size ref arch fs hs ur hI y w z hy)), oB.xx 1 (by decide) (by decide) (fun n M hq hI => c_Mo_base1 l E Γ n M m len c g k size ref arch fs hs ur hq hI y w z hy)⟩
theorem o_at (l : Launch) (hl : l.stackTraces = false) (E : zE) (Γ : zG) (x m o : Nat) (V : sV) (hV : sO V) (hg : Γ x = some (0, 6)) (ho : Γ o = some (2, 1)) (y : Int32) : oP l E Γ x m o V Y_La_at hh_at [.ref x, .int y, .ref o] Y_Mo_at [.ref m, .int y] := by
  obtain ⟨⟨sh, sp⟩, ⟨len, c, g, k, size⟩, ⟨ref, arch⟩, fs, hs, ur⟩ := V
  obtain ⟨hc24, hg1⟩ := hV
  dsimp only at hc24 hg1
  by_cases hy : ∃ u : Nat, u < size ∧ y = nI u
  · obtain ⟨u, hu, rfl⟩ := hy
    exact ⟨0, nI (arch u), ((sh, sp), (len, c, g, k, size), (ref, arch), fs, hs, ur), by decide, oA.ss (fun n M hI => w_La_at0 l E Γ n M x o _ _ hg _ ho (c_Sr_at0 l E Γ n M x sh sp len c g k size ref arch fs hs ur hI u hu)), oB.ss 0 (by decide) (fun n M hq hI => c_Mo_at0 l E Γ n M m len c g k size ref arch fs hs ur hq hI u hu)⟩
  · exact ⟨1, 0, ((sh, sp), (len, c, g, k, size), (ref, arch), fs, hs, ur), by decide, oA.xx (by decide) (fun n M hI => w_La_at1 l E Γ n M x o y _ hg (c_Sr_at1 l hl E Γ n M x sh sp len c g k size ref arch fs hs ur hI y hy)), oB.xx 0 (by decide) (by decide) (fun n M hq hI => c_Mo_at1 l E Γ n M m len c g k size ref arch fs hs ur hq hI y hy)⟩
theorem o_corrupt (l : Launch) (hl : l.stackTraces = false) (E : zE) (Γ : zG) (x m o : Nat) (V : sV) (hV : sO V) (hg : Γ x = some (0, 6)) (y b : Int32) : oPv l E Γ x m o V Y_La_corrupt hh_corrupt [.ref x, .int y, .int b] Y_Mo_corrupt [.ref m, .int y, .int b] := by
  obtain ⟨⟨sh, sp⟩, ⟨len, c, g, k, size⟩, ⟨ref, arch⟩, fs, hs, ur⟩ := V
  obtain ⟨hc24, hg1⟩ := hV
  dsimp only at hc24 hg1
  by_cases hy : ∃ u : Nat, u < size ∧ y = nI u
  · obtain ⟨u, hu, rfl⟩ := hy
    by_cases hb : ∃ v : Nat, 0 ≤ v ∧ v ≤ 255 ∧ b = nI v
    · obtain ⟨v, -, hv, rfl⟩ := hb
      exact ⟨0, ((sh, sp), (len, c, g, k, size), (ref, mUp arch u v), fs, hs, ur), by decide, oAv.rr (fun n M hI => w_La_corrupt0 l E Γ n M x _ _ _ hg (c_Sr_corrupt0 l E Γ n M x sh sp len c g k size ref arch fs hs ur hI u v hu hv)), oBv.rr 0 (by decide) (fun n M hq hI => c_Mo_corrupt0 l E Γ n M m len c g k size ref arch fs hs ur hq hI u v hu hv)⟩
    · exact ⟨2, ((sh, sp), (len, c, g, k, size), (ref, arch), fs, hs, ur), by decide, oAv.xx (fun n M hI => w_La_corrupt2 l E Γ n M x _ b _ hg (c_Sr_corrupt2 l hl E Γ n M x sh sp len c g k size ref arch fs hs ur hI u b hu hb)), oBv.xx 0 (by decide) (fun n M hq hI => c_Mo_corrupt2 l E Γ n M m len c g k size ref arch fs hs ur hq hI u b hu hb)⟩
  · exact ⟨1, ((sh, sp), (len, c, g, k, size), (ref, arch), fs, hs, ur), by decide, oAv.xx (fun n M hI => w_La_corrupt1 l E Γ n M x y b _ hg (c_Sr_corrupt1 l hl E Γ n M x sh sp len c g k size ref arch fs hs ur hI y b hy)), oBv.xx 0 (by decide) (fun n M hq hI => c_Mo_corrupt1 l E Γ n M m len c g k size ref arch fs hs ur hq hI y b hy)⟩
theorem o_unpack (l : Launch) (hl : l.stackTraces = false) (E : zE) (Γ : zG) (x m o : Nat) (V : sV) (hV : sO V) (hg : Γ x = some (0, 6)) (ho : Γ o = some (2, 1)) (y : Int32) : oP l E Γ x m o V Y_La_unpack hh_unpack [.ref x, .int y, .ref o] Y_Mo_unpack [.ref m, .int y] := by
  obtain ⟨⟨sh, sp⟩, ⟨len, c, g, k, size⟩, ⟨ref, arch⟩, fs, hs, ur⟩ := V
  obtain ⟨hc24, hg1⟩ := hV
  dsimp only at hc24 hg1
  by_cases hy : ∃ i : Nat, y = nI i ∧ mBeg arch size i < size
  · obtain ⟨u, rfl, hu⟩ := hy
    cases ht : mTake ref len arch size (mBeg arch size u) with
    | none => exact ⟨2, 0, ((sh, sp), (len, c, g, k, size), (ref, arch), fs, hs, ur), by decide, oA.yy (by decide) (fun n M hI => w_La_unpack2 l E Γ n M x o _ _ hg (c_Sr_unpack2 l hl E Γ n M x sh sp len c g k size ref arch fs hs ur hI u hu ht)), oB.yy 6 (by decide) (by decide) (fun n M hq hI => c_Mo_unpack2 l E Γ n M m len c g k size ref arch fs hs ur hq hI u hu ht)⟩
    | some rs => exact ⟨0, nI rs.length, ((sp, sh), (len, c, g, rs.length, size), (ref, arch), fs, mAt rs, ur), by decide, oA.rr (fun n M hI => w_La_unpack0 l E Γ n M x o _ _ hg _ ho (c_Sr_unpack0 l E Γ n M x sh sp len c g k size ref arch fs hs ur hI u rs hu ht)), oB.rr 6 (by decide) (fun n M hq hI => c_Mo_unpack0 l E Γ n M m len c g k size ref arch fs hs ur hq hI u rs hu ht)⟩
  · exact ⟨1, 0, ((sh, sp), (len, c, g, k, size), (ref, arch), fs, hs, ur), by decide, oA.xx (by decide) (fun n M hI => w_La_unpack1 l E Γ n M x o y _ hg (c_Sr_unpack1 l hl E Γ n M x sh sp len c g k size ref arch fs hs ur hI y hy)), oB.xx 6 (by decide) (by decide) (fun n M hq hI => c_Mo_unpack1 l E Γ n M m len c g k size ref arch fs hs ur hq hI y hy)⟩
theorem o_depth (l : Launch) (hl : l.stackTraces = false) (E : zE) (Γ : zG) (x m o : Nat) (V : sV) (hV : sO V) (hg : Γ x = some (0, 6)) (ho : Γ o = some (2, 1)) (y : Int32) : oP l E Γ x m o V Y_La_depth hh_depth [.ref x, .int y, .ref o] Y_Mo_depth [.ref m, .int y] := by
  obtain ⟨⟨sh, sp⟩, ⟨len, c, g, k, size⟩, ⟨ref, arch⟩, fs, hs, ur⟩ := V
  obtain ⟨hc24, hg1⟩ := hV
  dsimp only at hc24 hg1
  by_cases hy : ∃ u : Nat, u < len ∧ y = nI u
  · obtain ⟨u, hu, rfl⟩ := hy
    cases ht : mDp ref len arch size u 500 0 0 with
    | none => exact ⟨2, 0, ((sh, sp), (len, c, g, k, size), (ref, arch), fs, hs, ur), by decide, oA.yy (by decide) (fun n M hI => w_La_depth2 l E Γ n M x o _ _ hg (c_Sr_depth2 l hl E Γ n M x sh sp len c g k size ref arch fs hs ur hI u hu ht)), oB.yy 6 (by decide) (by decide) (fun n M hq hI => c_Mo_depth2 l E Γ n M m len c g k size ref arch fs hs ur hq hI u hu ht)⟩
    | some v9 => exact ⟨0, nI v9, ((sh, sp), (len, c, g, k, size), (ref, arch), fs, hs, ur), by decide, oA.rr (fun n M hI => w_La_depth0 l E Γ n M x o _ _ hg _ ho (c_Sr_depth0 l E Γ n M x sh sp len c g k size ref arch fs hs ur hI u v9 hu ht)), oB.rr 6 (by decide) (fun n M hq hI => c_Mo_depth0 l E Γ n M m len c g k size ref arch fs hs ur hq hI u v9 hu ht)⟩
  · exact ⟨1, 0, ((sh, sp), (len, c, g, k, size), (ref, arch), fs, hs, ur), by decide, oA.xx (by decide) (fun n M hI => w_La_depth1 l E Γ n M x o y _ hg (c_Sr_depth1 l hl E Γ n M x sh sp len c g k size ref arch fs hs ur hI y hy)), oB.xx 6 (by decide) (by decide) (fun n M hq hI => c_Mo_depth1 l E Γ n M m len c g k size ref arch fs hs ur hq hI y hy)⟩
/-- what the law calls of both without a catch -/
def oD (l : Launch) (E : zE) (Γ : zG) (x m : Nat) (V : sV) (Ys Ym : zY) : Prop := ∃ (r : Int32) (V' : sV), (∃ d : Nat, d ≤ 7 ∧ ∀ n M, PI Γ M x V → zCt l E Ys d (0, 0) [.ref x] Γ n M (zPi Γ n (fun v M' => v = r ∧ kX x M M' ∧ PI Γ M' x V'))) ∧ ∃ d : Nat, d ≤ 7 ∧ ∀ n M, qX Γ M.2.2 m → QI M m V → zCt l E Ym d (0, 0) [.ref m] Γ n M (zPi Γ n (fun v M' => v = r ∧ kM m M M' ∧ QI M' m V'))
theorem z_least {p : Nat → Prop} : ∀ n, p n → ∃ i, p i ∧ ∀ j, j < i → ¬ p j := by
  intro n
  induction n using Nat.strongRecOn with
  | ind n ih =>
    intro h
    by_cases c : ∃ j, j < n ∧ p j
    · obtain ⟨j, h1, h2⟩ := c
      exact ih j h1 h2
    · exact ⟨n, h, fun j hj hp => c ⟨j, hj, hp⟩⟩
theorem o_reads (l : Launch) (E : zE) (Γ : zG) (x m : Nat) (V : sV) : oD l E Γ x m V Y_Sr_reads Y_Mo_reads := by
  obtain ⟨⟨sh, sp⟩, ⟨len, c, g, k, size⟩, ⟨ref, arch⟩, fs, hs, ur⟩ := V
  refine ⟨nI c, ((sh, sp), (len, c, g, k, size), (ref, arch), fs, hs, ur), ⟨0, by decide, fun n M hI => ?_⟩, ⟨0, by decide, fun n M hq hI => ?_⟩⟩
  · refine (c_Sr_reads l E Γ n M x sh sp hI.1).mono ?_
    rintro v Γ' n' M' ⟨w, rfl, rfl, rfl, rfl, rfl⟩
    exact ⟨_, rfl, rfl, rfl, hI.2.2.1.1, kX.rf, hI⟩
  · refine (c_Mo_reads l E Γ n M m len c g k size ref arch fs hs ur hq hI).mono ?_
    rintro v Γ' n' M' ⟨w, rfl, rfl, rfl, rfl, rfl⟩
    exact ⟨_, rfl, rfl, rfl, rfl, kM.c0, qI.c0 hI⟩
theorem o_size (l : Launch) (E : zE) (Γ : zG) (x m : Nat) (V : sV) : oD l E Γ x m V Y_Sr_size Y_Mo_size := by
  obtain ⟨⟨sh, sp⟩, ⟨len, c, g, k, size⟩, ⟨ref, arch⟩, fs, hs, ur⟩ := V
  refine ⟨nI size, ((sh, sp), (len, c, g, k, size), (ref, arch), fs, hs, ur), ⟨0, by decide, fun n M hI => ?_⟩, ⟨0, by decide, fun n M hq hI => ?_⟩⟩
  · refine (c_Sr_size l E Γ n M x sh sp hI.1).mono ?_
    rintro v Γ' n' M' ⟨w, rfl, rfl, rfl, rfl, rfl⟩
    exact ⟨_, rfl, rfl, rfl, hI.2.2.2.2.2.2.2.2.1, kX.rf, hI⟩
  · refine (c_Mo_size l E Γ n M m len c g k size ref arch fs hs ur hq hI).mono ?_
    rintro v Γ' n' M' ⟨w, rfl, rfl, rfl, rfl, rfl⟩
    exact ⟨_, rfl, rfl, rfl, rfl, kM.c0, qI.c0 hI⟩
theorem o_blocks (l : Launch) (E : zE) (Γ : zG) (x m : Nat) (V : sV) : oD l E Γ x m V Y_Sr_blocks Y_Mo_blocks := by
  obtain ⟨⟨sh, sp⟩, ⟨len, c, g, k, size⟩, ⟨ref, arch⟩, fs, hs, ur⟩ := V
  obtain ⟨b, hb1, hb2⟩ := z_least (p := fun i => size ≤ mBeg arch size i) size (by have := mBeg_ge arch size size; omega)
  have hu : ∀ i, size ≤ mBeg arch size i → (∀ j, j < i → mBeg arch size j < size) → i = b := fun i h1 h2 => by
    rcases Nat.lt_trichotomy i b with h | h | h
    · exact absurd h1 (hb2 i h)
    · exact h
    · have := h2 b h; omega
  refine ⟨nI b, ((sh, sp), (len, c, g, k, size), (ref, arch), fs, hs, ur), ⟨3, by decide, fun n M hI => ?_⟩, ⟨1, by decide, fun n M hq hI => ?_⟩⟩
  · refine (c_Sr_blocks l E Γ n M x sh sp hI.1 size arch hI.2.2.2.2.2.2.2.2).mono ?_
    rintro v Γ' n' M' ⟨w, rfl, rfl, rfl, rfl, i, rfl, h1, h2⟩
    obtain rfl := hu i h1 h2
    exact ⟨_, rfl, rfl, rfl, rfl, kX.rf, hI⟩
  · refine (c_Mo_blocks l E Γ n M m len c g k size ref arch fs hs ur hq hI).mono ?_
    rintro v Γ' n' M' ⟨w, rfl, rfl, rfl, rfl, i, rfl, h1, h2⟩
    obtain rfl := hu i h1 h2
    exact ⟨_, rfl, rfl, rfl, rfl, kM.c0, qI.c0 hI⟩
theorem o_pack (l : Launch) (E : zE) (Γ : zG) (x m : Nat) (V : sV) : oD l E Γ x m V Y_Sr_pack Y_Mo_pack := by
  obtain ⟨⟨sh, sp⟩, ⟨len, c, g, k, size⟩, ⟨ref, arch⟩, fs, hs, ur⟩ := V
  obtain ⟨pk, hpk⟩ : ∃ p, p = mPk ref (fun j => fs (mSx (fun i => (fs i).1) c j)) c ((c + 2) / 3) := ⟨_, rfl⟩
  refine ⟨nI pk.1, ((sh, sp), (len, c, g, k, pk.1), (ref, pk.2), fs, hs, ur), ⟨6, by decide, fun n M hI => ?_⟩, ⟨5, by decide, fun n M hq hI => ?_⟩⟩
  · obtain ⟨i1, i2, i3, i4, i5, i6, i7, i8, i9⟩ := hI
    dsimp only at i1 i2 i3 i4 i5 i6 i7 i8 i9
    refine (c_Sr_pack l E Γ n M x sh sp c len ref fs i1 i3.1 i3.2 i2 (fun i hi => ⟨(i4 i hi).1, (i4 i hi).2.2⟩)).mono ?_
    rw [← hpk]
    rintro v Γ' n' M' ⟨w, rfl, rfl, rfl, rfl, e1, e2, e3⟩
    have hsh := i1.2.2.1
    have hc24 := i3.2
    have hk3 := i7.2
    have e2' : ∀ a, (a < x + 134 ∨ x + 138 < a) → M'.1 a = M.1 a := fun a ha => (e2 a (fun q => by have := q.1; have := q.2; omega)).1
    have e9 : ∀ a j, (a < x + 134 ∨ x + 138 < a) → zi M' a j = zi M a j := fun a j ha => by
      show M'.1 a j = M.1 a j
      rw [e2' a ha]
    refine ⟨_, rfl, rfl, rfl, rfl, fun a ha => ⟨(e2 a (fun q => by have := q.1; have := q.2; omega)).1, (e2 a (fun q => by have := q.1; have := q.2; omega)).2, e1 a (by omega)⟩, ?_⟩
    show pI Γ' M' x sh sp len c g k pk.1 ref pk.2 fs hs ur
    refine ⟨pX.kp i1 e1, i2.kept (e2' _ (by omega)) (e2' _ (by omega)), ⟨(e9 _ _ (by omega)).trans i3.1, i3.2⟩, fun i hi => (i4 i hi).kept (fun b q1 q2 => e2' b (by omega)), ⟨(e9 _ _ (by omega)).trans i5.1, i5.2⟩, fun hg => (i6 hg).kept (fun b q1 q2 => e2' b (by omega)), ⟨(e9 _ _ (by omega)).trans i7.1, i7.2⟩, fun i hi => (i8 i hi).kept (fun b q1 q2 => e2' b (by omega)), e3⟩
  · obtain ⟨q1, q2, q3, q4, q5, q6, q7, q8⟩ := hI
    dsimp only at q1 q2 q3 q4 q5 q6 q7 q8
    refine (c_Mo_pack l E Γ n M m c len ref fs hq q2.1 q2.2 q1 (fun i hi => (q5 i hi).1) (fun i hi => (q5 i hi).2)).mono ?_
    rw [← hpk]
    rintro v Γ' n' M' ⟨w, rfl, rfl, rfl, rfl, h, e3⟩
    exact ⟨_, rfl, rfl, rfl, rfl, h.m, ⟨q1.kp h rfl rfl, ⟨(h.i 3 rfl).trans q2.1, q2.2⟩, ⟨(h.i 4 rfl).trans q3.1, q3.2⟩, ⟨(h.i 5 rfl).trans q4.1, q4.2⟩, fun i hi => ⟨(q5 i hi).1.kp h rfl rfl rfl rfl rfl rfl, (q5 i hi).2⟩, fun i hi => ⟨(q6 i hi).1.kp h rfl rfl rfl rfl rfl rfl, (q6 i hi).2⟩, fun hg => ⟨(q7 hg).1.kp h rfl rfl rfl rfl rfl rfl, (q7 hg).2⟩, e3⟩⟩
/-- clear -/
def oC (l : Launch) (E : zE) (Γ : zG) (x m : Nat) (V : sV) (z : Int32) : Prop := ∃ V' : sV, (∀ n M, PI Γ M x V → zCt l E Y_Sr_clear 0 (0, 0) [.ref x, .int z] Γ n M (zPv Γ n (fun M' => kX x M M' ∧ PI Γ M' x V'))) ∧ ∀ n M, qX Γ M.2.2 m → QI M m V → zCt l E Y_Mo_clear 0 (0, 0) [.ref m, .int z] Γ n M (zPv Γ n (fun M' => kM m M M' ∧ QI M' m V'))
theorem o_clear (l : Launch) (E : zE) (Γ : zG) (x m : Nat) (V : sV) (z : Int32) : oC l E Γ x m V z := by
  obtain ⟨⟨sh, sp⟩, ⟨len, c, g, k, size⟩, ⟨ref, arch⟩, fs, hs, ur⟩ := V
  by_cases hz : z = 0
  · refine ⟨((sh, sp), (len, 0, 0, k, size), (ref, arch), fs, hs, ur), fun n M hI => ?_, fun n M hq hI => ?_⟩
    · refine (c_Sr_clear l E Γ n M x sh sp hI.1 z).mono ?_
      rw [if_pos hz]
      rintro v Γ' n' M' ⟨rfl, rfl, rfl, rfl⟩
      obtain ⟨i1, i2, i3, i4, i5, i6, i7, i8, i9⟩ := hI
      dsimp only at i1 i2 i3 i4 i5 i6 i7 i8 i9
      have hsh := i1.2.2.1
      have hk3 := i7.2
      refine ⟨rfl, rfl, rfl, (kX.rf.si (by omega)).si (by omega), ?_⟩
      show pI _ _ x sh sp len 0 0 k size ref arch fs hs ur
      refine ⟨i1, i2.kept ((zi_b (by omega)).trans (zi_b (by omega))) ((zi_b (by omega)).trans (zi_b (by omega))), ⟨(zi_a (by omega)).trans (zi_s _ _ _ _), Nat.zero_le _⟩, fun i hi => absurd hi (Nat.not_lt_zero _), ⟨zi_s _ _ _ _, Nat.zero_le _⟩, fun hg => absurd hg (by show ¬ (0 : Nat) = 1; decide), ⟨((zi_a (by omega)).trans (zi_a (by omega))).trans i7.1, i7.2⟩, fun i hi => (i8 i hi).kept (fun b q1 q2 => (zi_b (by omega)).trans (zi_b (by omega))), i9.kept ((zi_b (by omega)).trans (zi_b (by omega))) ((zi_b (by omega)).trans (zi_b (by omega)))⟩
    · refine (c_Mo_clear l E Γ n M m len c g k size ref arch fs hs ur hq hI z).mono ?_
      rintro v Γ' n' M' ⟨rfl, rfl, rfl, h⟩
      rw [if_pos hz] at h
      exact ⟨rfl, rfl, rfl, h⟩
  · refine ⟨((sh, sp), (0, 0, 0, 0, size), (ref, arch), fs, hs, ur), fun n M hI => ?_, fun n M hq hI => ?_⟩
    · refine (c_Sr_clear l E Γ n M x sh sp hI.1 z).mono ?_
      rw [if_neg hz]
      rintro v Γ' n' M' ⟨rfl, rfl, rfl, rfl⟩
      obtain ⟨i1, i2, i3, i4, i5, i6, i7, i8, i9⟩ := hI
      dsimp only at i1 i2 i3 i4 i5 i6 i7 i8 i9
      have hsh := i1.2.2.1
      refine ⟨rfl, rfl, rfl, (((kX.rf.si (by omega)).si (by omega)).si (by omega)).si (by omega), i1, ⟨(zi_a (by omega)).trans (zi_s _ _ _ _), fun j hj => absurd hj (Nat.not_lt_zero _), Nat.zero_le _, i2.2.2.2⟩, ⟨((zi_a (by omega)).trans ((zi_a (by omega)).trans (zi_a (by omega)))).trans (zi_s _ _ _ _), Nat.zero_le _⟩, fun i hi => absurd hi (Nat.not_lt_zero _), ⟨((zi_a (by omega)).trans (zi_a (by omega))).trans (zi_s _ _ _ _), Nat.zero_le _⟩, fun hg => absurd hg (by show ¬ (0 : Nat) = 1; decide), ⟨zi_s _ _ _ _, Nat.zero_le _⟩, fun i hi => absurd hi (Nat.not_lt_zero _), i9.kept (((zi_b (by omega)).trans (zi_b (by omega))).trans ((zi_b (by omega)).trans (zi_b (by omega)))) (((zi_b (by omega)).trans (zi_b (by omega))).trans ((zi_b (by omega)).trans (zi_b (by omega))))⟩
    · refine (c_Mo_clear l E Γ n M m len c g k size ref arch fs hs ur hq hI z).mono ?_
      rintro v Γ' n' M' ⟨rfl, rfl, rfl, h⟩
      rw [if_neg hz] at h
      exact ⟨rfl, rfl, rfl, h⟩
