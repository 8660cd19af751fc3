/-! what the coders have in common, over any step: what is coded where, and how the state goes on -/
def xB {σ : Type} (o : Option (Nat × σ)) (f : Nat → σ → Option (Nat × σ)) : Option (Nat × σ) := match o with
  | none => none
  | some y => f y.1 y.2
theorem xB_some {σ : Type} {o : Option (Nat × σ)} {f : Nat → σ → Option (Nat × σ)} {y : Nat × σ} : xB o f = some y ↔ ∃ a t, o = some (a, t) ∧ f a t = some y := by
  cases o with
  | none => exact ⟨fun h => (nomatch h), fun ⟨a, t, h, _⟩ => (nomatch h)⟩
  | some z => exact ⟨fun h => ⟨z.1, z.2, rfl, h⟩, fun ⟨a, t, h, h2⟩ => by cases h; exact h2⟩
def xK {σ : Type} (R : σ → Nat → Nat → Option (Nat × σ)) (g v : Nat) : Nat → Nat → σ → Option (Nat × σ)
  | 0, i, s => some (i, s)
  | n + 1, i, s => xB (R s (g + i) (if 2 ^ (i + 1) ≤ v + 1 then 1 else 0)) (fun b t => if b = 0 then some (i, t) else xK R g v n (i + 1) t)
def xV {σ : Type} (R : σ → Nat → Nat → Option (Nat × σ)) (v : Nat) : Nat → Nat → σ → Option (Nat × σ)
  | 0, a, s => some (a, s)
  | n + 1, a, s => xB (R s 58 ((v + 1) / 2 ^ n % 2)) (fun b t => xV R v n (2 * a + b) t)
def xN {σ : Type} (R : σ → Nat → Nat → Option (Nat × σ)) (g v : Nat) (s : σ) : Option (Nat × σ) :=
  xB (xK R g v 9 0 s) (fun k t => xB (xV R v k 1 t) (fun w u => some (w - 1, u)))
def xKd {σ : Type} (R : σ → Nat → Nat → Option (Nat × σ)) (b k : Nat) (s : σ) : Option (Nat × σ) :=
  xB (R s (27 + 4 * b) (if k = 0 then 0 else 1)) (fun x s => if x = 0 then some (0, s) else
  xB (R s (27 + 4 * b + 1) (if k = 4 then 0 else 1)) (fun x s => if x = 0 then some (4, s) else
  xB (R s (27 + 4 * b + 2) (if k = 1 then 0 else 1)) (fun x s => if x = 0 then some (1, s) else
  xB (R s (27 + 4 * b + 3) (if k = 2 then 0 else 1)) (fun x s => some (if x = 0 then 2 else 3, s)))))
def xC {σ : Type} (R : σ → Nat → Nat → Option (Nat × σ)) (a b : Nat) (s : σ) : Option (Nat × σ) :=
  xB (R s (47 + 2 * a) (if mChg a b = 0 then 0 else 1)) (fun x s => if x = 1 then
    xB (R s (47 + 2 * a + 1) (if mChg a b = 1 then 0 else 1)) (fun y s => some (if 1 + y < a then 1 + y else 1 + y + 1, s))
    else some (if x < a then x else x + 1, s))
def xI {σ : Type} (R : σ → Nat → Nat → Option (Nat × σ)) (b : Nat) (s : σ) : Option (Nat × σ) :=
  xB (R s 55 (b / 2)) (fun x s => xB (R s (56 + x) (b % 2)) (fun y s => some (2 * x + y, s)))
def xE {σ : Type} (R : σ → Nat → Nat → Option (Nat × σ)) (ref : Nat → Nat) (at_ k m : Nat) (s : σ) : Option (Nat × σ) :=
  if k = 0 then xB (xN R 9 (m - 1) s) (fun w t => some (w + 1, t)) else if k = 3 then xB (xN R 18 (m - 1) s) (fun w t => some (w + 1, t)) else
  if k = 1 then xC R (ref at_) m s else xI R m s
/-- what a coder's bit does -/
def zBit (E : zE) (Γ : zG) (n X : Nat) {σ : Type} (R : σ → Nat → Nat → Option (Nat × σ)) (I : zM → σ → Prop) : Prop :=
  ∀ (M : zM) (s : σ) (p b : Nat) (b' : Nat) (t : σ) (x : Int32), I M s → (p < 58 ∧ x = nI p ∨ p = 58 ∧ x = -1) → b < 2 → R s p b = some (b', t) →
    b' < 2 ∧ ∀ l, zCt l E Y_Co_bit 1 (0, 0) [.ref X, .int x, .int (nI b)] Γ n M (zPi Γ n (fun v M' => v = nI b' ∧ I M' t))
abbrev zLb (r : vw_C) : Prop := zLu "SlicedReads$Coder" 40 r.1 "SlicedReads$Coder" ⟨"SlicedReads$Coder", "bit", "(II)I"⟩ Y_Co_bit 2
theorem z_shl2 : ∀ i, i < 9 → nI 2 <<< (nI i &&& 31) = nI (2 ^ (i + 1)) := by decide +kernel
theorem z_shr1 : ∀ v, v < 162 → ∀ i, i < 9 → (nI v >>> (nI i &&& 31)) &&& nI 1 = nI (v / 2 ^ i % 2) := by decide +kernel
theorem z_p9 : ∀ i, i < 9 → 2 ^ (i + 1) < 1024 := by decide
theorem z_m1 (m : Nat) : nI m + Int32.ofInt (-1) = nI m - nI 1 := by
  rw [show Int32.ofInt (-1) = -1 from by decide, show nI 1 = 1 from by decide, Int32.sub_eq_add_neg]
theorem z_m1lt {m : Nat} (h : m < 100) : (nI m - nI 1 < 0) ↔ m = 0 := by
  constructor
  · intro q
    by_cases c : m = 0
    · exact c
    · rw [pk_sub (by omega)] at q; exact (nI_pos (by omega) q).elim
  · rintro rfl; decide
theorem xK_le {σ : Type} {R : σ → Nat → Nat → Option (Nat × σ)} {g v : Nat} : ∀ {n i : Nat} {s : σ} {k : Nat} {t : σ}, xK R g v n i s = some (k, t) → k ≤ i + n
  | 0, i, s, k, t, h => by
    obtain ⟨rfl, rfl⟩ := Prod.mk.inj (Option.some.inj h); omega
  | n + 1, i, s, k, t, h => by
    simp only [xK] at h
    obtain ⟨b, u, e1, h⟩ := xB_some.mp h
    split at h
    · obtain ⟨rfl, rfl⟩ := Prod.mk.inj (Option.some.inj h); omega
    · have := xK_le h; omega
set_option maxHeartbeats 4000000 in
set_option maxRecDepth 100000 in
/-- number(g, v) -/
theorem c_Co_number (l : Launch) (E : zE) (Γ : zG) (n : Nat) (M : zM) (X c : Nat) (r : vw_C) {σ : Type} (R : σ → Nat → Nat → Option (Nat × σ)) (I : zM → σ → Prop) (hbit : zBit E Γ n X R I) (hc : zCl[c]? = some r) (hl : zLb r) (hX : Γ X = some (0, c)) (s : σ) (hI : I M s) (g v w : Nat) (t : σ) (hg : g + 9 ≤ 58) (hv : v ≤ 160) (h : xN R g v s = some (w, t)) :
    zCt l E Y_Co_number 2 (0, 0) [.ref X, .int (nI g), .int (nI v)] Γ n M (zPi Γ n (fun v M' => v = nI w ∧ I M' t)) := by
  refine zCt.of [(0, .ref X), (1, .int (nI g)), (2, .int (nI v))] (by decide) (Nat.le_of_ble_eq_true rfl) rfl (fun f hfl hx hQ => ?_)
  unfold xN at h
  obtain ⟨kk, t1, e8, h⟩ := xB_some.mp h
  obtain ⟨w1, t2, e9, h⟩ := xB_some.mp h
  obtain ⟨rfl, rfl⟩ := Prod.mk.inj (Option.some.inj h)
  have hkk : kk ≤ 9 := by have := xK_le e8; omega
  have hvv := hv
  clear h hv
  have loop2 : ∀ (m : Nat) (M1 : zM), ∀ (a : Nat) (s1 : σ), m ≤ 9 → 1 ≤ a → I M1 s1 → xV R v m a s1 = some (w1, t2) → zGo f E Γ n (0, 0) M1 58 [(5, .int (nI m - nI 1)), (4, .int (nI a)), (3, .int (nI kk)), (0, .ref X), (1, .int (nI g)), (2, .int (nI v))] [] := by
    refine z_lp (fun m => m) _ ?_
    intro m M1 ih a s1 hm ha hI1 hv
    refine g_iload (q := 60) hx d_Co_number_58 rfl rfl ?_
    refine g_if_lt (q := 63) (t := 89) hx d_Co_number_60 rfl rfl (z_m1lt (by omega)) (fun hm0 => ?_) (fun hm0 => ?_)
    · subst hm0
      simp only [xV] at hv
      obtain ⟨rfl, rfl⟩ := Prod.mk.inj (Option.some.inj hv)
      refine g_iload (q := 91) hx d_Co_number_89 rfl rfl ?_
      refine g_iconst (q := 92) (v := nI 1) hx d_Co_number_91 rfl (by decide) ?_
      refine g_isub (q := 93) hx d_Co_number_92 rfl (pk_sub (by omega)) ?_
      exact g_iret hx d_Co_number_93 rfl hQ ⟨Nat.le_refl _, Nat.le_refl _⟩ ⟨_, rfl, rfl, rfl, rfl, hI1⟩
    · obtain ⟨m, rfl⟩ : ∃ j, m = j + 1 := ⟨m - 1, by omega⟩
      rw [show nI (m + 1) - nI 1 = nI m from pk_sub (by omega)]
      simp only [xV] at hv
      obtain ⟨b1, s2, e1, hv⟩ := xB_some.mp hv
      refine g_iconst (q := 64) (v := nI 2) hx d_Co_number_63 rfl (by decide) ?_
      refine g_iload (q := 66) hx d_Co_number_64 rfl rfl ?_
      refine g_imul (q := 67) hx d_Co_number_66 rfl (pk_mul _ _) ?_
      refine g_aload_n (q := 68) hx d_Co_number_67 rfl rfl ?_
      refine g_iconst (q := 69) (v := (-1)) hx d_Co_number_68 rfl (by decide) ?_
      refine g_iload_n (q := 70) hx d_Co_number_69 rfl rfl ?_
      refine g_iconst (q := 71) (v := nI 1) hx d_Co_number_70 rfl (by decide) ?_
      refine g_iadd (q := 72) hx d_Co_number_71 rfl (nI_add _ _) ?_
      refine g_iload (q := 74) hx d_Co_number_72 rfl rfl ?_
      refine g_ishr (q := 75) hx d_Co_number_74 rfl rfl ?_
      refine g_iconst (q := 76) (v := nI 1) hx d_Co_number_75 rfl (by decide) ?_
      refine g_iand (q := 77) hx d_Co_number_76 rfl (z_shr1 (v + 1) (by omega) m (by omega)) ?_
      refine g_ci (q := 80) (zrunU hx d_Co_number_77 hc hl hX rfl rfl (Nat.le_of_ble_eq_true rfl) (by decide) (by omega) (by omega) ((hbit M1 s1 58 _ b1 s2 _ hI1 (Or.inr ⟨rfl, rfl⟩) (by omega) e1).2 _)) rfl (fun r77 M77 p77 => ?_)
      obtain ⟨rfl, hI2⟩ := p77
      refine g_iadd (q := 81) hx d_Co_number_80 rfl (nI_add _ _) ?_
      refine g_istore (q := 83) (lc' := [(4, _), (5, _), (3, _), (0, _), (1, _), (2, _)]) hx d_Co_number_81 rfl (by decide) rfl ?_
      refine g_iinc (q := 86) (lc' := [(5, _), (4, _), (3, _), (0, _), (1, _), (2, _)]) hx d_Co_number_83 rfl rfl (z_m1 m) (by decide) rfl ?_
      refine g_goto (q := 58) hx d_Co_number_86 rfl ?_
      exact ih m M77 (by omega) (2 * a + b1) s2 (by omega) (by omega) hI2 hv
  have part2 : ∀ (M1 : zM) (z : Int32), I M1 t1 → zGo f E Γ n (0, 0) M1 50 [(4, .int z), (3, .int (nI kk)), (0, .ref X), (1, .int (nI g)), (2, .int (nI v))] [] := by
    intro M1 z hI1
    refine g_iconst (q := 51) (v := nI 1) hx d_Co_number_50 rfl (by decide) ?_
    refine g_istore (q := 53) (lc' := [(4, _), (3, _), (0, _), (1, _), (2, _)]) hx d_Co_number_51 rfl (by decide) rfl ?_
    refine g_iload_n (q := 54) hx d_Co_number_53 rfl rfl ?_
    refine g_iconst (q := 55) (v := nI 1) hx d_Co_number_54 rfl (by decide) ?_
    refine g_isub (q := 56) hx d_Co_number_55 rfl rfl ?_
    refine g_istore (q := 58) (lc' := [(5, _), (4, _), (3, _), (0, _), (1, _), (2, _)]) hx d_Co_number_56 rfl (by decide) rfl ?_
    exact loop2 kk M1 1 t1 hkk (by omega) hI1 e9
  have loop1 : ∀ (i : Nat) (M1 : zM), ∀ (s1 : σ), i ≤ 9 → I M1 s1 → xK R g v (9 - i) i s1 = some (kk, t1) → zGo f E Γ n (0, 0) M1 5 [(4, .int (nI i)), (3, .int (nI i)), (0, .ref X), (1, .int (nI g)), (2, .int (nI v))] [] := by
    refine z_lp (fun i => 9 - i) _ ?_
    intro i M1 ih s1 hi hI1 hk
    refine g_iload (q := 7) hx d_Co_number_5 rfl rfl ?_
    refine g_bipush (q := 9) (v := nI 9) hx d_Co_number_7 rfl (by decide) ?_
    refine g_icmp_ge (q := 12) (t := 50) hx d_Co_number_9 rfl rfl (nI_leI (by omega) (by omega)) (fun h9 => ?_) (fun h9 => ?_)
    · obtain rfl : i = 9 := (by omega)
      simp only [Nat.sub_self, xK] at hk
      obtain ⟨rfl, rfl⟩ := Prod.mk.inj (Option.some.inj hk)
      exact part2 _ _ hI1
    · rw [show 9 - i = (9 - (i + 1)) + 1 by omega] at hk
      simp only [xK] at hk
      obtain ⟨b1, s2, e1, hk⟩ := xB_some.mp hk
      refine g_aload_n (q := 13) hx d_Co_number_12 rfl rfl ?_
      refine g_iload_n (q := 14) hx d_Co_number_13 rfl rfl ?_
      refine g_iload (q := 16) hx d_Co_number_14 rfl rfl ?_
      refine g_iadd (q := 17) hx d_Co_number_16 rfl (nI_add _ _) ?_
      refine g_iload_n (q := 18) hx d_Co_number_17 rfl rfl ?_
      refine g_iconst (q := 19) (v := nI 1) hx d_Co_number_18 rfl (by decide) ?_
      refine g_iadd (q := 20) hx d_Co_number_19 rfl (nI_add _ _) ?_
      refine g_iconst (q := 21) (v := nI 2) hx d_Co_number_20 rfl (by decide) ?_
      refine g_iload (q := 23) hx d_Co_number_21 rfl rfl ?_
      refine g_ishl (q := 24) hx d_Co_number_23 rfl (z_shl2 i (by omega)) ?_
      have h2p := z_p9 i (by omega)
      refine g_icmp_lt (q := 27) (t := 31) hx d_Co_number_24 rfl rfl (nI_ltI (by omega) (by omega)) (fun h24 => ?_) (fun h24 => ?_)
      · rw [if_neg (by omega)] at e1
        refine g_iconst (q := 32) (v := nI 0) hx d_Co_number_31 rfl (by decide) ?_
        refine g_ci (q := 35) (zrunU hx d_Co_number_32 hc hl hX rfl rfl (Nat.le_of_ble_eq_true rfl) (by decide) (by omega) (by omega) ((hbit M1 s1 (g + i) _ b1 s2 _ hI1 (Or.inl ⟨by omega, rfl⟩) (by omega) e1).2 _)) rfl (fun r32 M32 p32 => ?_)
        obtain ⟨rfl, hI2⟩ := p32
        have hb1 := (hbit M1 s1 (g + i) _ b1 s2 _ hI1 (Or.inl ⟨by omega, rfl⟩) (by omega) e1).1
        refine g_if_ne (q := 38) (t := 41) hx d_Co_number_35 rfl rfl (zb_ne0 (by omega)) (fun h35 => ?_) (fun h35 => ?_)
        · refine g_iinc (q := 44) (lc' := [(3, _), (4, _), (0, _), (1, _), (2, _)]) hx d_Co_number_41 rfl rfl (z_inc _) (by decide) rfl ?_
          refine g_iinc (q := 47) (lc' := [(4, _), (3, _), (0, _), (1, _), (2, _)]) hx d_Co_number_44 rfl rfl (z_inc _) (by decide) rfl ?_
          refine g_goto (q := 5) hx d_Co_number_47 rfl ?_
          rw [if_neg (by omega)] at hk
          exact ih (i + 1) M32 (by show 9 - (i + 1) < 9 - i; omega) s2 (by omega) hI2 hk
        · refine g_goto (q := 50) hx d_Co_number_38 rfl ?_
          rw [if_pos (by omega)] at hk
          obtain ⟨rfl, rfl⟩ := Prod.mk.inj (Option.some.inj hk)
          exact part2 _ _ hI2
      · rw [if_pos (by omega)] at e1
        refine g_iconst (q := 28) (v := nI 1) hx d_Co_number_27 rfl (by decide) ?_
        refine g_goto (q := 32) hx d_Co_number_28 rfl ?_
        refine g_ci (q := 35) (zrunU hx d_Co_number_32 hc hl hX rfl rfl (Nat.le_of_ble_eq_true rfl) (by decide) (by omega) (by omega) ((hbit M1 s1 (g + i) _ b1 s2 _ hI1 (Or.inl ⟨by omega, rfl⟩) (by omega) e1).2 _)) rfl (fun r32 M32 p32 => ?_)
        obtain ⟨rfl, hI2⟩ := p32
        have hb1 := (hbit M1 s1 (g + i) _ b1 s2 _ hI1 (Or.inl ⟨by omega, rfl⟩) (by omega) e1).1
        refine g_if_ne (q := 38) (t := 41) hx d_Co_number_35 rfl rfl (zb_ne0 (by omega)) (fun h35 => ?_) (fun h35 => ?_)
        · refine g_iinc (q := 44) (lc' := [(3, _), (4, _), (0, _), (1, _), (2, _)]) hx d_Co_number_41 rfl rfl (z_inc _) (by decide) rfl ?_
          refine g_iinc (q := 47) (lc' := [(4, _), (3, _), (0, _), (1, _), (2, _)]) hx d_Co_number_44 rfl rfl (z_inc _) (by decide) rfl ?_
          refine g_goto (q := 5) hx d_Co_number_47 rfl ?_
          rw [if_neg (by omega)] at hk
          exact ih (i + 1) M32 (by show 9 - (i + 1) < 9 - i; omega) s2 (by omega) hI2 hk
        · refine g_goto (q := 50) hx d_Co_number_38 rfl ?_
          rw [if_pos (by omega)] at hk
          obtain ⟨rfl, rfl⟩ := Prod.mk.inj (Option.some.inj hk)
          exact part2 _ _ hI2
  refine g_iconst (q := 1) (v := nI 0) hx d_Co_number_0 rfl (by decide) ?_
  refine g_istore_n (q := 2) (lc' := [(3, _), (0, _), (1, _), (2, _)]) hx d_Co_number_1 rfl (by decide) rfl ?_
  refine g_iconst (q := 3) (v := nI 0) hx d_Co_number_2 rfl (by decide) ?_
  refine g_istore (q := 5) (lc' := [(4, _), (3, _), (0, _), (1, _), (2, _)]) hx d_Co_number_3 rfl (by decide) rfl ?_
  exact loop1 0 M s (by omega) hI e8
