/-! the reference: its shape, its frames, what its memory shows -/
def qX (Γ : zG) (P : Nat → Nat → Nat) (m : Nat) : Prop := (Γ m = some (0, 7) ∧ 0 < m) ∧ (Γ (m + 1) = some (1, 160) ∧ Γ (m + 2) = some (1, 31) ∧ Γ (m + 3) = some (1, 31) ∧ Γ (m + 4) = some (1, 31) ∧ Γ (m + 5) = some (1, 31) ∧ Γ (m + 6) = some (1, 372) ∧ Γ (m + 7) = some (1, 372) ∧ Γ (m + 8) = some (1, 6000) ∧ Γ (m + 9) = some (1, 59) ∧ Γ (m + 10) = some (1, 600) ∧ Γ (m + 11) = some (1, 700) ∧ Γ (m + 12) = some (1, 24)) ∧ P m 2 = m + 1 ∧ P m 6 = m + 2 ∧ P m 7 = m + 3 ∧ P m 8 = m + 4 ∧ P m 9 = m + 5 ∧ P m 10 = m + 6 ∧ P m 11 = m + 7 ∧ P m 13 = m + 8 ∧ P m 16 = m + 9 ∧ P m 18 = m + 10 ∧ P m 23 = m + 11 ∧ P m 24 = m + 12
theorem qX.g0 {Γ : zG} {P : Nat → Nat → Nat} {m : Nat} (h : qX Γ P m) : Γ m = some (0, 7) := h.1.1
theorem qX.m0 {Γ : zG} {P : Nat → Nat → Nat} {m : Nat} (h : qX Γ P m) : 0 < m := h.1.2
theorem qX.g1 {Γ : zG} {P : Nat → Nat → Nat} {m : Nat} (h : qX Γ P m) : Γ (m + 1) = some (1, 160) := h.2.1.1
theorem qX.p1 {Γ : zG} {P : Nat → Nat → Nat} {m : Nat} (h : qX Γ P m) {M : zM} (hP : M.2.2 = P) : zr M m 2 = m + 1 := by
  show M.2.2 m 2 = m + 1
  rw [hP]
  exact h.2.2.1
theorem qX.g2 {Γ : zG} {P : Nat → Nat → Nat} {m : Nat} (h : qX Γ P m) : Γ (m + 2) = some (1, 31) := h.2.1.2.1
theorem qX.p2 {Γ : zG} {P : Nat → Nat → Nat} {m : Nat} (h : qX Γ P m) {M : zM} (hP : M.2.2 = P) : zr M m 6 = m + 2 := by
  show M.2.2 m 6 = m + 2
  rw [hP]
  exact h.2.2.2.1
theorem qX.g3 {Γ : zG} {P : Nat → Nat → Nat} {m : Nat} (h : qX Γ P m) : Γ (m + 3) = some (1, 31) := h.2.1.2.2.1
theorem qX.p3 {Γ : zG} {P : Nat → Nat → Nat} {m : Nat} (h : qX Γ P m) {M : zM} (hP : M.2.2 = P) : zr M m 7 = m + 3 := by
  show M.2.2 m 7 = m + 3
  rw [hP]
  exact h.2.2.2.2.1
theorem qX.g4 {Γ : zG} {P : Nat → Nat → Nat} {m : Nat} (h : qX Γ P m) : Γ (m + 4) = some (1, 31) := h.2.1.2.2.2.1
theorem qX.p4 {Γ : zG} {P : Nat → Nat → Nat} {m : Nat} (h : qX Γ P m) {M : zM} (hP : M.2.2 = P) : zr M m 8 = m + 4 := by
  show M.2.2 m 8 = m + 4
  rw [hP]
  exact h.2.2.2.2.2.1
theorem qX.g5 {Γ : zG} {P : Nat → Nat → Nat} {m : Nat} (h : qX Γ P m) : Γ (m + 5) = some (1, 31) := h.2.1.2.2.2.2.1
theorem qX.p5 {Γ : zG} {P : Nat → Nat → Nat} {m : Nat} (h : qX Γ P m) {M : zM} (hP : M.2.2 = P) : zr M m 9 = m + 5 := by
  show M.2.2 m 9 = m + 5
  rw [hP]
  exact h.2.2.2.2.2.2.1
theorem qX.g6 {Γ : zG} {P : Nat → Nat → Nat} {m : Nat} (h : qX Γ P m) : Γ (m + 6) = some (1, 372) := h.2.1.2.2.2.2.2.1
theorem qX.p6 {Γ : zG} {P : Nat → Nat → Nat} {m : Nat} (h : qX Γ P m) {M : zM} (hP : M.2.2 = P) : zr M m 10 = m + 6 := by
  show M.2.2 m 10 = m + 6
  rw [hP]
  exact h.2.2.2.2.2.2.2.1
theorem qX.g7 {Γ : zG} {P : Nat → Nat → Nat} {m : Nat} (h : qX Γ P m) : Γ (m + 7) = some (1, 372) := h.2.1.2.2.2.2.2.2.1
theorem qX.p7 {Γ : zG} {P : Nat → Nat → Nat} {m : Nat} (h : qX Γ P m) {M : zM} (hP : M.2.2 = P) : zr M m 11 = m + 7 := by
  show M.2.2 m 11 = m + 7
  rw [hP]
  exact h.2.2.2.2.2.2.2.2.1
theorem qX.g8 {Γ : zG} {P : Nat → Nat → Nat} {m : Nat} (h : qX Γ P m) : Γ (m + 8) = some (1, 6000) := h.2.1.2.2.2.2.2.2.2.1
theorem qX.p8 {Γ : zG} {P : Nat → Nat → Nat} {m : Nat} (h : qX Γ P m) {M : zM} (hP : M.2.2 = P) : zr M m 13 = m + 8 := by
  show M.2.2 m 13 = m + 8
  rw [hP]
  exact h.2.2.2.2.2.2.2.2.2.1
theorem qX.g9 {Γ : zG} {P : Nat → Nat → Nat} {m : Nat} (h : qX Γ P m) : Γ (m + 9) = some (1, 59) := h.2.1.2.2.2.2.2.2.2.2.1
theorem qX.p9 {Γ : zG} {P : Nat → Nat → Nat} {m : Nat} (h : qX Γ P m) {M : zM} (hP : M.2.2 = P) : zr M m 16 = m + 9 := by
  show M.2.2 m 16 = m + 9
  rw [hP]
  exact h.2.2.2.2.2.2.2.2.2.2.1
theorem qX.g10 {Γ : zG} {P : Nat → Nat → Nat} {m : Nat} (h : qX Γ P m) : Γ (m + 10) = some (1, 600) := h.2.1.2.2.2.2.2.2.2.2.2.1
theorem qX.p10 {Γ : zG} {P : Nat → Nat → Nat} {m : Nat} (h : qX Γ P m) {M : zM} (hP : M.2.2 = P) : zr M m 18 = m + 10 := by
  show M.2.2 m 18 = m + 10
  rw [hP]
  exact h.2.2.2.2.2.2.2.2.2.2.2.1
theorem qX.g11 {Γ : zG} {P : Nat → Nat → Nat} {m : Nat} (h : qX Γ P m) : Γ (m + 11) = some (1, 700) := h.2.1.2.2.2.2.2.2.2.2.2.2.1
theorem qX.p11 {Γ : zG} {P : Nat → Nat → Nat} {m : Nat} (h : qX Γ P m) {M : zM} (hP : M.2.2 = P) : zr M m 23 = m + 11 := by
  show M.2.2 m 23 = m + 11
  rw [hP]
  exact h.2.2.2.2.2.2.2.2.2.2.2.2.1
theorem qX.g12 {Γ : zG} {P : Nat → Nat → Nat} {m : Nat} (h : qX Γ P m) : Γ (m + 12) = some (1, 24) := h.2.1.2.2.2.2.2.2.2.2.2.2.2
theorem qX.p12 {Γ : zG} {P : Nat → Nat → Nat} {m : Nat} (h : qX Γ P m) {M : zM} (hP : M.2.2 = P) : zr M m 24 = m + 12 := by
  show M.2.2 m 24 = m + 12
  rw [hP]
  exact h.2.2.2.2.2.2.2.2.2.2.2.2.2
/-- in the reference, ints of the arrays A and of the fields I have changed, and longs of the fields L; outside it nothing -/
def kF (A I L : Nat → Bool) (m : Nat) (M M' : zM) : Prop := M'.2.2 = M.2.2 ∧ (∀ a, (a < m ∨ m + 12 < a) → M'.1 a = M.1 a ∧ M'.2.1 a = M.2.1 a) ∧ (∀ c, 0 < c → A c = false → M'.1 (m + c) = M.1 (m + c)) ∧ (∀ j, I j = false → M'.1 m j = M.1 m j) ∧ ∀ j, L j = false → M'.2.1 m j = M.2.1 m j
theorem kF.rf {A I L : Nat → Bool} {m : Nat} {M : zM} : kF A I L m M M := ⟨rfl, fun _ _ => ⟨rfl, rfl⟩, fun _ _ _ => rfl, fun _ _ => rfl, fun _ _ => rfl⟩
theorem kF.tr {A I L : Nat → Bool} {m : Nat} {M M' M'' : zM} (h : kF A I L m M M') (h' : kF A I L m M' M'') : kF A I L m M M'' :=
  ⟨h'.1.trans h.1, fun a ha => ⟨((h'.2.1 a ha).1).trans (h.2.1 a ha).1, ((h'.2.1 a ha).2).trans (h.2.1 a ha).2⟩, fun c h0 hc => (h'.2.2.1 c h0 hc).trans (h.2.2.1 c h0 hc), fun j hj => (h'.2.2.2.1 j hj).trans (h.2.2.2.1 j hj), fun j hj => (h'.2.2.2.2 j hj).trans (h.2.2.2.2 j hj)⟩
def zSb (A B : Nat → Bool) : Prop := ∀ c, B c = false → A c = false
theorem zSb_rf (B : Nat → Bool) : zSb B B := fun c h => h
theorem kF.mono {A I L A' I' L' : Nat → Bool} {m : Nat} {M M' : zM} (h : kF A I L m M M') (hA : zSb A A') (hI : zSb I I') (hL : zSb L L') : kF A' I' L' m M M' :=
  ⟨h.1, h.2.1, fun c h0 hc => h.2.2.1 c h0 (hA c hc), fun j hj => h.2.2.2.1 j (hI j hj), fun j hj => h.2.2.2.2 j (hL j hj)⟩
theorem kF.si {A I L : Nat → Bool} {m : Nat} {M M' : zM} (h : kF A I L m M M') {k : Nat} {v : Int32} (hk : I k = true) : kF A I L m M (zsi M' m k v) := by
  refine ⟨h.1, fun a ha => ⟨(va_up_ne _ _ (by omega)).trans (h.2.1 a ha).1, (h.2.1 a ha).2⟩, fun c h0 hc => (va_up_ne _ _ (by omega)).trans (h.2.2.1 c h0 hc), fun j hj => ?_, h.2.2.2.2⟩
  have hjk : j ≠ k := fun e => by rw [e, hk] at hj; cases hj
  exact (zi_k (M := M') (a := m) (v := v) hjk).trans (h.2.2.2.1 j hj)
theorem kF.sa {A I L : Nat → Bool} {m : Nat} {M M' : zM} (h : kF A I L m M M') {c k : Nat} {v : Int32} (hc : A c = true) (h0 : 0 < c) (h12 : c ≤ 12) : kF A I L m M (zsi M' (m + c) k v) := by
  refine ⟨h.1, fun a ha => ⟨(va_up_ne _ _ (by omega)).trans (h.2.1 a ha).1, (h.2.1 a ha).2⟩, fun b hb0 hb => ?_, fun j hj => ?_, h.2.2.2.2⟩
  · have hbc : b ≠ c := fun e => by rw [e, hc] at hb; cases hb
    exact (va_up_ne _ _ (by omega)).trans (h.2.2.1 b hb0 hb)
  · exact (zi_a (M := M') (a := m + c) (k := k) (v := v) (b := m) (j := j) (by omega)).trans (h.2.2.2.1 j hj)
theorem kF.sl {A I L : Nat → Bool} {m : Nat} {M M' : zM} (h : kF A I L m M M') {k : Nat} {v : Int64} (hk : L k = true) : kF A I L m M (zsl M' m k v) := by
  refine ⟨h.1, fun a ha => ⟨(h.2.1 a ha).1, (va_up_ne _ _ (by omega)).trans (h.2.1 a ha).2⟩, h.2.2.1, h.2.2.2.1, fun j hj => ?_⟩
  have hjk : j ≠ k := fun e => by rw [e, hk] at hj; cases hj
  have h1 : zl (zsl M' m k v) m j = zl M' m j := by rw [zl_si, if_neg (fun q => hjk q.2)]
  exact h1.trans (h.2.2.2.2 j hj)
theorem kF.r {A I L : Nat → Bool} {m : Nat} {M M' : zM} (h : kF A I L m M M') : M'.2.2 = M.2.2 := h.1
theorem kF.a {A I L : Nat → Bool} {m : Nat} {M M' : zM} (h : kF A I L m M M') (c : Nat) (h0 : 0 < c) (hc : A c = false) (j : Nat) : zi M' (m + c) j = zi M (m + c) j := by
  show M'.1 (m + c) j = M.1 (m + c) j
  rw [h.2.2.1 c h0 hc]
theorem kF.i {A I L : Nat → Bool} {m : Nat} {M M' : zM} (h : kF A I L m M M') (j : Nat) (hj : I j = false) : zi M' m j = zi M m j := h.2.2.2.1 j hj
theorem kF.l {A I L : Nat → Bool} {m : Nat} {M M' : zM} (h : kF A I L m M M') (j : Nat) (hj : L j = false) : zl M' m j = zl M m j := h.2.2.2.2 j hj
theorem kF.o {A I L : Nat → Bool} {m : Nat} {M M' : zM} (h : kF A I L m M M') {a : Nat} (ha : a < m ∨ m + 12 < a) : M'.1 a = M.1 a ∧ M'.2.1 a = M.2.1 a := h.2.1 a ha
def bN : Nat → Bool := fun _ => false
/-- the arrays and fields of the coder; of the reading; of the block; of the reads -/
def bCA : Nat → Bool := fun i => i == 9 || i == 10
def bCI : Nat → Bool := fun i => i == 17
def bCL : Nat → Bool := fun i => i == 14 || i == 15
/-- a read at the place r -/
def qS (M : zM) (m r : Nat) (rd : mRd) : Prop := zi M (m + 2) r = nI rd.1 ∧ zi M (m + 3) r = nI rd.2.length ∧ zi M (m + 4) r = nI (mBc rd.2) ∧ zi M (m + 5) r = nI (mPs rd.2) ∧ ∀ j, j < rd.2.length → zi M (m + 6) (12 * r + j) = nI (mK rd.2 j) ∧ zi M (m + 7) (12 * r + j) = nI (mV rd.2 j)
def qR (M : zM) (m len : Nat) (ref : Nat → Nat) : Prop := zi M m 1 = nI len ∧ (∀ j, j < len → zi M (m + 1) j = nI (ref j)) ∧ len ≤ 160 ∧ ∀ j, ref j < 4
def qA (M : zM) (m size : Nat) (arch : Nat → Nat) : Prop := zi M m 12 = nI size ∧ (∀ j, j < size → zi M (m + 8) j = nI (arch j)) ∧ size ≤ 2080 ∧ ∀ j, arch j < 256
theorem qS.kp {A I L : Nat → Bool} {m : Nat} {M M' : zM} (h : kF A I L m M M') (h2 : A 2 = false) (h3 : A 3 = false) (h4 : A 4 = false) (h5 : A 5 = false) (h6 : A 6 = false) (h7 : A 7 = false) {r : Nat} {rd : mRd} (q : qS M m r rd) : qS M' m r rd := by
  obtain ⟨q1, q2, q3, q4, q5⟩ := q
  exact ⟨(h.a 2 (by decide) h2 r).trans q1, (h.a 3 (by decide) h3 r).trans q2, (h.a 4 (by decide) h4 r).trans q3, (h.a 5 (by decide) h5 r).trans q4, fun j hj => ⟨(h.a 6 (by decide) h6 _).trans (q5 j hj).1, (h.a 7 (by decide) h7 _).trans (q5 j hj).2⟩⟩
theorem qR.kp {A I L : Nat → Bool} {m : Nat} {M M' : zM} (h : kF A I L m M M') (h1 : A 1 = false) (h2 : I 1 = false) {len : Nat} {ref : Nat → Nat} (q : qR M m len ref) : qR M' m len ref := by
  obtain ⟨q1, q2, q3, q4⟩ := q
  exact ⟨(h.i 1 h2).trans q1, fun j hj => (h.a 1 (by decide) h1 j).trans (q2 j hj), q3, q4⟩
theorem qA.kp {A I L : Nat → Bool} {m : Nat} {M M' : zM} (h : kF A I L m M M') (h1 : A 8 = false) (h2 : I 12 = false) {size : Nat} {arch : Nat → Nat} (q : qA M m size arch) : qA M' m size arch := by
  obtain ⟨q1, q2, q3, q4⟩ := q
  exact ⟨(h.i 12 h2).trans q1, fun j hj => (h.a 8 (by decide) h1 j).trans (q2 j hj), q3, q4⟩
theorem qX.at {Γ : zG} {M : zM} {m : Nat} (h : qX Γ M.2.2 m) {M' : zM} (hP : M'.2.2 = M.2.2) : qX Γ M'.2.2 m := by rw [hP]; exact h
