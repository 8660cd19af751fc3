/-! throwing and catching: a method that throws has a contract of its own, beside the one of its returning -/
def zUp : List String := ["java/lang/RuntimeException", "java/lang/Exception"]
/-- the words of a throw that speak of the heap -/
def zHw : List Cond := [.isRef (.static Bundle.tN "UNASSIGNED_STACK" Bundle.steD), .isRef (.static Bundle.tN "SUPPRESSED_SENTINEL" Bundle.listD), .laysStatic Bundle.tN "UNASSIGNED_STACK" Bundle.steD, .laysStatic Bundle.tN "SUPPRESSED_SENTINEL" Bundle.listD]
def zHas (w : Cond) : Prop := w ∈ zWs ∨ w ∈ zNs ∨ w ∈ zHw
theorem zIsN_tab {w : Cond} (h : zIsN w = true) : w.onTables = true := by
  cases w <;> first | rfl | (simp [zIsN] at h)
theorem zSt.lay {A : Nat → Prop} {C nm ds : String} {s : State} {args : Array Value} (h : zSt A C nm ds s s.heap) : (Cond.laysStatic C nm ds).before args s = true := by
  obtain ⟨-, c, k, i, fd, a, cell, ⟨h1, h2, h3, h4⟩, h5, ⟨h6, h7, h8⟩, h9, -⟩ := h
  show (Cond.laysStatic C nm ds).holds args s none s [] = true
  exact Cond.laysStatic_of h1 h2 h3 h4 h5 h6 h7 h8 h9
theorem zSt.rf {A : Nat → Prop} {C nm ds : String} {s : State} {args : Array Value} (h : zSt A C nm ds s s.heap) : (Cond.isRef (.static C nm ds)).before args s = true := by
  obtain ⟨h | ⟨t, h⟩, -⟩ := h
  · obtain ⟨cf, kf, fi, fd, a, cell, h1, h2, -, h4, h5, h6, h7, -⟩ := h
    simp [Cond.before, Cond.holds, Cond.value, Term.eval, State.fieldNamed?, h1, h2, h4, h5, h6, h7]
  · obtain ⟨cf, kf, fi, fd, a, cell, h1, h2, -, h4, h5, h6, h7, -⟩ := h
    simp [Cond.before, Cond.holds, Cond.value, Term.eval, State.fieldNamed?, h1, h2, h4, h5, h6, h7]
section ZXA
variable {p : Program} {l : Launch} {e : Env} {R : Room} {s : State} {m : MethodId} {args : Array Value} {below : List Frame} {meth : Method} {c : Code} {T : State} {locs : List Loc} {cells slots : Nat}
/-- the place where a walk is, taken for a beginning: what is written up to here needn't be named -/
def zNow (s T : State) (m : MethodId) (args : Array Value) (below : List Frame) : State := (T.setVm s.vm).setFrames (.invoking m args :: below)
theorem z_now (X : Stand p l e R s m args below meth c T locs cells slots) (a b : Nat) (ha : cells + a ≤ R.cells) (hb : slots + b ≤ R.slots) :
    Stand p l e { R with cells := a, slots := b } (zNow s T m args below) m args below meth c T [] 0 0 := by
  obtain ⟨j, hj⟩ := Option.isSome_iff_exists.mp (show (T.setVm s.vm).topJava?.isSome = true from X.here.top)
  obtain ⟨fs, hfs⟩ := State.topJava?_eq_some.mp hj
  have hF : (zNow s T m args below).frames = .invoking m args :: below := State.frames_setFrames _ (State.cur_lt_of_frames hfs)
  have hL : e.platform.stackLimits (zNow s T m args below).me = e.platform.stackLimits s.me := (State.stackLimits_setFrames e.platform (T.setVm s.vm) _).trans X.limits
  have hB : (zNow s T m args below).me.stackBytes = s.me.stackBytes := (State.stackBytes_setFrames (T.setVm s.vm) _).trans X.bytes
  have hU : (zNow s T m args below).localsInUse = s.localsInUse := (State.localsInUse_invoking hF X.method X.code).trans (State.localsInUse_invoking X.frames X.method X.code).symm
  have hroom : (zNow s T m args below).hasRoom e.platform { R with cells := a, slots := b } = true := by
    have h1 := X.room
    have h2 := X.heapSize
    have h3 := X.used
    have h4 : (zNow s T m args below).heap.size = T.heap.size := rfl
    have h5 : (zNow s T m args below).slotsUsed = T.slotsUsed := rfl
    have h6 : (zNow s T m args below).slotsTrue = true := X.book
    unfold State.hasRoom at h1 ⊢
    rw [hU, hF, hL, hB, h4, h5, h6]
    rw [X.frames] at h1
    simp only [Bool.and_eq_true, decide_eq_true_eq] at h1 ⊢
    obtain ⟨⟨⟨⟨g1, g2⟩, g3⟩, g4⟩, -⟩ := h1
    exact ⟨⟨⟨⟨g1, g2⟩, by omega⟩, by omega⟩, trivial⟩
  have hsame : (zNow s T m args below).sameButNew (T.setVm (zNow s T m args below).vm) [] 0 0 := by
    have d0 : T.heap.toList.drop T.heap.size = [] := List.drop_eq_nil_of_le (by simp)
    refine ⟨?_, Nat.le_refl _, Nat.le_refl _, ?_, ?_, fun q z hq => ⟨z, hq, rfl, rfl, fun _ _ => rfl⟩⟩
    · obtain ⟨t, ht, -⟩ := State.frames_cons hfs
      show T.setVm s.vm = { ((T.setVm s.vm).setFrames _).setFrames (T.setVm s.vm).frames with heap := T.heap, slotsUsed := T.slotsUsed }
      rw [State.setFrames_setFrames, State.setFrames_self ht]
      rfl
    · show T.slotsUsed = T.slotsUsed + ((T.heap.toList.drop T.heap.size).map _).sum
      rw [d0]
      rfl
    · show ((T.heap.toList.drop T.heap.size).map _).sum ≤ 0
      rw [d0]
      exact Nat.le_refl _
  exact { admits := X.admits, cas := X.cas, clock := X.clock, frames := hF, room := hroom, hears := X.hears, method := X.method, code := X.code, here := X.here, tail := X.tail, warmed := X.warmed, limits := (X.limits.trans hL.symm), bytes := X.bytes.trans hB.symm, same := hsame }
end ZXA
/-- what a method that throws an object of class C leaves -/
def zT (E : zE) (C : String) (Γ : zG) (n : Nat) (post : zM → Prop) : Array Value → State → Outcome → State → Prop := fun _ st o t =>
  ∃ (q : Nat) (ce : Cell) (M : zM), o = .threw q ∧ (t.heap[q]? = some ce ∧ ce.vm = .none ∧ st.vm.findClass C = some ce.cls) ∧ post M ∧ zB E Γ n M t ∧ va_F (zA E) st t
def zTQ (E : zE) (C : String) (Γ : zG) (n : Nat) (post : zM → Prop) (k : Nat × Nat) : Array Value → State → Outcome → State → Prop := fun a st o t =>
  zT E C Γ n post a st o t ∧ ∃ L : List Loc, Free.FrameEndT st o t L k.1 k.2 ∧ ∀ q ∈ L, zA E q.base
/-- the contract of a method that throws -/
def zCx (l : Launch) (E : zE) (Y : zY) (d : Nat) (k : Nat × Nat) (av : List Value) (Γ : zG) (n : Nat) (M : zM) (C : String) (n' : Nat) (post : zM → Prop) : Prop :=
  MetFree l Y.1 (headSpec (Cond.code Y.1 Y.2.1 Y.2.2.1 Y.2.2.2 :: zWs) (zRm d k)) (va_Pc av (zB E Γ n M)) (fun _ _ _ _ _ => True) (zTQ E C Γ n' post k)
def zEndT (f : zF) (E : zE) (C : String) (Γ : zG) (n : Nat) (post : zM → Prop) (kk : Nat × Nat) : Prop :=
  ∀ t : State, (∃ o, t.status = .running ∧ Ended t (zbe f.1) o ∧ zTQ E C Γ n post kk (za f.1) (zs f.1) o t) → f.2.2 t
theorem zCx.of {l : Launch} {E : zE} {Y : zY} {d : Nat} {kk : Nat × Nat} {av : List Value} {Γ : zG} {n n' : Nat} {M : zM} {C : String} {post : zM → Prop} (lc : List (Nat × Value)) (hy : plainName Y.1.cls = true) (hav : (lg_sl av).length ≤ Y.2.2.1) (hlc : lv_args 0 av = lc)
    (body : ∀ f : zF, zll f.1 = l → zOk f E Y d kk → (zco f.1).exceptionTable.isEmpty = true → zEndT f E C Γ n' post kk → zGo f E Γ n (0, 0) M 0 lc []) : zCx l E Y d kk av Γ n M C n' post := by
  refine MetFree.of_bodyS (code := Y.2.1) (maxLocals := Y.2.2.1) (ret := Y.2.2.2) hy ?_ ?_
  · intro args s m h hn
    obtain ⟨meth, c, h1, h2, h3, h4, h5, h6, -, -⟩ := Cond.code_spec hn (atoms_spec (ws := Cond.code Y.1 Y.2.1 Y.2.2.1 Y.2.2.2 :: zWs) h _ List.mem_cons_self)
    exact ⟨meth, c, h1, h2, h3, h4, h5, h6⟩
  · intro p e s m args below meth c s₁ B hml hP _
    obtain ⟨rfl, hz, hR, hK, hlo, hold⟩ := hP
    have hts := atoms_spec (ws := Cond.code Y.1 Y.2.1 Y.2.2.1 Y.2.2.2 :: zWs) B.pre
    have hl := lv_entry av (n := Y.2.2.1) hav
    rw [hlc] at hl
    obtain ⟨t, a1, o, b1, b2, b3⟩ := body ((p, l, e, zRm d kk, s, m, av.toArray, below, meth, c), Y.2.2.1, fun t => ∃ o, t.status = .running ∧ Ended t below o ∧ zTQ E C Γ n' post kk av.toArray s o t) rfl
      ⟨B.exec, B.bytes, hml, findClass_of_methodNamed B.named, fun w hw => hts w (List.mem_cons_of_mem _ hw), hK, B.notSynchronized, by show zlo E ≤ s.heap.size; rw [hz]; exact hlo, B.returns, rfl, fun h => (name_of_methodNamed B.named B.method).1.trans h, Nat.le_refl _, Nat.le_refl _, ⟨Nat.le_refl _, hold⟩, Nat.le_refl _⟩
      (B.noHandlers (hts _ List.mem_cons_self)) (fun t h => h) s.heap [] _ hz hR va_S.rf hl s₁ (by rw [B.state]; rfl) (Stand.of_body B)
    refine ⟨t, o, ?_, b1, b2, b3⟩
    rw [lg_entry_eq]
    exact a1
/-- what a throw of class X in the class own wants of the tables -/
def zThr (own : String) (ik ic : Nat) (X : String) : Prop := Cond.classLink own ik X ∈ zWs ∧ Cond.initialized X ∈ zWs ∧ Bundle.fit X = true ∧ ∀ w ∈ Bundle.ownAtoms own ic X zUp, zHas w
section ZXB
variable {f : zF} {E : zE} {Y : zY} {d : Nat} {kk : Nat × Nat} {Γ : zG} {n : Nat} {k k' : Nat × Nat} {M : zM} {pc q : Nat} {lc : List (Nat × Value)} {st rest : List Value}
theorem g_thr {X tx : String} {ik is ic : Nat} {post : zM → Prop} (hx : zOk f E Y d kk) (ht : (zll f.1).stackTraces = false) (hno : (zco f.1).exceptionTable.isEmpty = true)
    (d0 : decode Y.2.1 pc = .ok (.new ik, 3)) (d3 : decode Y.2.1 (pc + 3) = .ok (.dup, 1)) (d4 : decode Y.2.1 (pc + 4) = .ok (.ldc is, 2)) (d6 : decode Y.2.1 (pc + 6) = .ok (.invokespecial ic, 3)) (d9 : decode Y.2.1 (pc + 9) = .ok (.athrow, 1))
    (hw : zThr Y.1.cls ik ic X) (hs : (Y.1.cls, is, tx) ∈ zStr) (hd : 6 ≤ d) (hk1 : k.1 + 1 ≤ kk.1) (hk2 : k.2 + 6 ≤ kk.2) (hst : (st.map fun v => v.category).sum ≤ 8) (hp : post M) (hQ : zEndT f E X Γ (n + 1) post kk) : zGo f E Γ n k M pc lc st := by
  obtain ⟨⟨p, l, e, R, s, m, args, below, meth, c⟩, nL, Q⟩ := f
  intro H locs ls hz hR hS hl T hT X9
  have hlo9 : zlo E ≤ n := by rw [← hz]; exact z_lo hx hS
  obtain ⟨hexec, hb, hml, hown, hts, hK, hlk, hlo, -, -, -, hf1, hf2, ⟨hc1, hold⟩, hc2⟩ := hx
  dsimp only [zp, zll, ze, zRo, zs, zm, za, zbe, zme, zco] at *
  obtain ⟨hw1, hw2, hfit, hw3⟩ := hw
  have htr : e.platform.stackTraces = false := (show e.platform.stackTraces = l.stackTraces by rw [X9.admits.platform]).trans ht
  have N := z_now X9 1 6 (Nat.le_trans hk1 hc1) (Nat.le_trans hk2 hc2)
  obtain ⟨s', hs'⟩ : ∃ z, z = zNow s T m args below := ⟨_, rfl⟩
  have hv : s'.vm = s.vm := by rw [hs']; rfl
  have hh : s'.heap = H := by rw [hs', ← hT]; rfl
  rw [← hs'] at N
  have hW : s.WarmedH s'.vm := by rw [hv]; exact State.WarmedH.refl s
  have hO : zOld E s' s'.heap := by rw [hh]; exact (hold.kept hS).moved hW.alike
  have hws : ∀ w : Cond, zHas w → w.before args s' = true := by
    rintro w (h | h | h)
    · exact word_at hW (good_of_word (zWs_good w h)) (hts w h)
    · exact va_tabs (zIsN_tab (zNs_is w h)) hv.symm (hK.2.1 w h)
    · simp only [zHw, List.mem_cons, List.not_mem_nil, or_false] at h
      rcases h with rfl | rfl | rfl | rfl
      · exact hO.1.rf
      · exact hO.2.rf
      · exact hO.1.lay
      · exact hO.2.lay
  have hown' : s'.vm.findClass Y.1.cls = some m.cls := by rw [hv]; exact hown
  obtain ⟨sa, hsa⟩ := hK.2.2.2.1 _ hs
  have hsa' : vk_R Y.1.cls is tx sa s' := vk_R.warm hW hsa
  have hins := hws _ (hw3 (.instantiable X 6) (by simp [Bundle.ownAtoms]))
  obtain ⟨cX, kX, hfX, hkX, -⟩ := Cond.instantiable_spec (args := args) (first := s') (o := none) (s := s') (idx := []) hins
  have hcat : (Value.ref n).category = 1 := rfl
  have key : W p l e { R with cells := 1, slots := 6 } s' m args below meth c H [] 0 0 (fun U => U.status = .running ∧ Ended U below (.threw n) ∧ s'.WarmedH U.vm ∧ s'.sameButNew ({ U with vm := s'.vm } : State) [] 1 6 ∧ ∃ ce, U.heap[n]? = some ce ∧ Bundle.OwnCell args s' X n (.ref sa) ce) (F0 m pc ls st) := by
    refine W.newcK hexec hb hown' (hws _ (Or.inl hw1)) hins (hws _ (Or.inl hw2)) rfl d0 (Nat.le_refl _) (Nat.le_refl _) hfX hz fun H1 kC hkC e1 z1 o1 => ?_
    cases hkX.symm.trans hkC
    refine lv_dup (pc := pc + 3) hexec hb d3 hcat ?_
    refine va_ldcS (pc := pc + 4) hexec hb hown' hsa' d4 ?_
    intro T1 hT1 X1
    obtain ⟨U, g1, g2, g3, g4, g5, g6⟩ := X1.ctorThrowS hexec htr (own := Y.1.cls) (cls := X) (names := zUp) (ic := ic) hown' hfit (by decide +kernel) (fun w hw => hws w (hw3 w hw)) (fun x hx => nomatch hx) hfX hkX
      (a := n) (by rw [hT1]; exact e1) (by rw [hh, hz]; exact Nat.le_refl _) (msg := .ref sa) rfl (g := F0 m (pc + 6) ls (.ref sa :: .ref n :: .ref n :: st)) rfl (hl.1.trans hml.symm) rfl rfl (rest := st) rfl
      (by rw [hb]; exact d6) (by rw [hb]; exact d9) (covers_of_empty hno _)
      (by show 2 + 3 < R.frames; have := Nat.le_trans hd hf1; omega)
      (by
        have h9 : 40 * 6 ≤ 40 * d := Nat.mul_le_mul_left _ hd
        have h8 : 40 * d ≤ R.locals := hf2
        simp only [List.map_cons, List.sum_cons, hcat]
        show 2 * 0 + (1 + (st.map fun v => v.category).sum) + (13 * (2 + 1) + 42) ≤ R.locals
        omega) hlk
    exact ⟨U, g1, g2, g3, g4, g5, g6⟩
  obtain ⟨U, u1, u2, u3, u4, u5, ce, u6, u7⟩ := key T hT N
  have hWU : s.WarmedH U.vm := State.WarmedH.trans hW u4
  have hsz : U.heap.size = n + 1 := by
    have h1 : U.heap.size ≤ s'.heap.size + 1 := u5.2.2.1
    have h2 := (Array.getElem?_eq_some_iff.mp u6).1
    rw [hh, hz] at h1
    omega
  have ho : ∀ q : Nat, q < n → U.heap[q]? = H[q]? := by
    intro q hq
    have hq' : q < H.size := by rw [hz]; exact hq
    obtain ⟨c', e1, e2, -, e4⟩ := u5.2.2.2.2.2 q H[q] (by rw [hh]; exact Array.getElem?_eq_getElem hq')
    have e5 : c'.slots = H[q].slots := Array.ext_getElem? fun i => e4 i (fun h => nomatch h)
    rw [e5] at e2
    have e6 : U.heap[q]? = some c' := e1
    rw [e6, e2]
    exact (Array.getElem?_eq_getElem hq').symm
  have hS9 : va_S (zA E) s.heap U.heap locs := hS.grow hz hsz ho
  have hnew : (T.setVm s.vm).sameButNew ({ U with vm := s.vm } : State) [] 1 6 := by
    subst hs'
    obtain ⟨e1, e2⟩ := u5
    unfold zNow at e1
    rw [State.setFrames_setFrames] at e1
    exact ⟨e1, e2⟩
  have hall := (X9.same.trans hnew).mono hk1 hk2
  rw [List.append_nil] at hall
  refine ⟨U, u1, hQ U ⟨.threw n, u2, u3, ⟨n, ce, M, rfl, ⟨u6, u7.vm, by have h9 := u7.cls; rw [hv] at h9; exact h9⟩, hp, ⟨hsz, fun a sh ha => ?_, zK.warm hWU hK, by omega, (hold.kept hS9).moved hWU.alike⟩, hS9.F rfl⟩, locs, ⟨⟨n, rfl⟩, hWU, hall⟩, hS.2.2⟩⟩
  obtain ⟨h1, h2⟩ := hR a sh ha
  exact ⟨h1.kept (ho a (by have := h1.lt; omega)), h2⟩
/-- a call of a method that throws, caught here -/
theorem g_cat {i b c a d' n' : Nat} {r : vw_C} {Z : zY} {As : List Value} {C : String} {post : zM → Prop} (hx : zOk f E Y d kk) (hd : decode Y.2.1 pc = .ok (.invokevirtual i, 3)) (hl : zLv Y.1.cls i Z a) (hlk : Cond.methodLink Y.1.cls i Z.1 ∈ zWs) (hc : zCl[c]? = some r) (hC : r.1 = Z.1.cls) (hb : Γ b = some (0, c))
    (hn : As.length = a) (hst : st = As.reverse ++ .ref b :: rest) (hw : (rest.map fun v => v.category).sum ≤ 8) (hdd : d' + 1 ≤ d) (hk1 : k.1 + k'.1 ≤ kk.1) (hk2 : k.2 + k'.2 ≤ kk.2) (hM : zCx (zll f.1) E Z d' k' (.ref b :: As) Γ n M C n' post)
    (pre : List ExceptionTableEntry) (x : ExceptionTableEntry) (suf : List ExceptionTableEntry) (hsplit : (zco f.1).exceptionTable.toList = pre ++ x :: suf)
    (hpass : ∀ z ∈ pre, z.catchType ≠ 0 ∧ ∃ nm : String, Cond.classLink Y.1.cls z.catchType nm ∈ zWs ∧ (C, nm) ∈ zNcs) (hcov : covers x pc = true) (h0 : x.catchType ≠ 0) (hxl : Cond.classLink Y.1.cls x.catchType C ∈ zWs) (hcast : Cond.castable C C ∈ zNs)
    (kk9 : ∀ (q : Nat) (M' : zM), post M' → zGo f E Γ n' (k.1 + k'.1, k.2 + k'.2) M' x.handlerPc lc [.ref q]) : zGo f E Γ n k M pc lc st := by
  intro H locs ls hz hR hS hls T hT X
  obtain ⟨cellB, hB1, hB2, hB3⟩ := z_recv hx hR hb hc
  have hpc := z_pc hx hz hR hS (.ref b :: As)
  have hroom := z_rm (k' := k') hx hdd hl.2.2.2.2.2.2.2.2
  have hcs := z_cl hx (k := k) (k' := k') (h1 := hk1) (h2 := hk2)
  obtain ⟨-, hi1, hi2, hi3, hi4, hn1, hn2, hn3, -⟩ := hl
  have hts := hx.2.2.2.2.1
  have hK9 := hx.2.2.2.2.2.1
  have hown := hx.2.2.2.1
  rw [hC] at hB3
  have hwd : ∀ w ∈ Cond.code Z.1 Z.2.1 Z.2.2.1 Z.2.2.2 :: zWs, w ∈ zWs := fun w hw => (List.mem_cons.mp hw).elim (fun e => by rw [e]; exact hi4) id
  have hK : Free.BackT (zll f.1) (zRo f.1) (zp f.1) (ze f.1) (zbe f.1) (zs f.1) (za f.1) Z.1 3 8 (PreOf (zRo f.1) k'.1 k'.2 (va_Pc (.ref b :: As) (zB E Γ n M)))
      (fun A a y B => ∃ (g : JFrame) (mk : MethodId) (t : State) (L : List Loc), B.U.heap = t.heap ∧ B.U.vm = t.vm ∧ zT E C Γ n' post a (A.U.calling g mk a) (.threw y) t ∧ B.locs = A.locs ++ L ∧ (∀ q ∈ L, zA E q.base) ∧ B.cells = A.cells + k'.1 ∧ B.slots = A.slots + k'.2) := by
    refine Free.BackT.of_free (S := headSpec (Cond.code Z.1 Z.2.1 Z.2.2.1 Z.2.2.2 :: zWs) (zRm d' k')) (bytes := Z.2.1) (maxL := Z.2.2.1) (ret := Z.2.2.2) (E := fun _ _ _ _ L j1 j2 => j1 = k'.1 ∧ j2 = k'.2 ∧ ∀ q ∈ L, zA E q.base) hM hroom.1 hroom.2 ?_ ?_ (fun _ _ _ _ _ _ _ _ _ => trivial) ?_ ?_
    · intro m meth c A a X hp
      have hwa : ∀ w ∈ zWs, w.before a A.U = true := fun w hw => word_at X.warmed (good_of_word (zWs_good w hw)) (hts w hw)
      exact ⟨atoms_intro fun w hw => hwa w (hwd w hw), hwa _ hi4, hwa _ hi3, hp.1, hp.2.1⟩
    · intro m meth c A a g mk X hp
      exact zB.blind _ _ _ _ hp.2.2
    · rintro a st o t ⟨hq, L, hF, hL⟩
      exact ⟨L, k'.1, k'.2, hF, rfl, rfl, hL⟩
    · rintro m meth c A a g mk v t L j1 j2 X hp hq hF ⟨rfl, rfl, hL⟩
      exact ⟨g, mk, t, L, rfl, rfl, hq.1, rfl, hL, rfl, rfl⟩
  obtain ⟨mk0, meth0, hnm, hmt, hstt, -⟩ := Cond.instanceMethod_spec (hts _ hi1)
  obtain ⟨meth1, c1, hmt1, -, -, -, -, -, -, hsig⟩ := Cond.code_spec hnm (hts _ hi4)
  cases hmt.symm.trans hmt1
  have hdecl : (Cond.declares Z.1).before (za f.1) (zs f.1) = true := by
    simp [Cond.before, Cond.holds, Cond.value, hnm, hmt, hstt, hsig]
  have hnf : Free.NotFace (zs f.1) Z.1 := by
    obtain ⟨c2, r2, m2, q1, q2, q3, q4, kP, hkP, hkPi⟩ := Cond.selects_spec (hts _ hi2)
    intro r0 hr0
    cases hnm.symm.trans hr0
    cases hnm.symm.trans q3
    exact ⟨kP, hkP, hkPi⟩
  have hlen : ∀ sig, parseMethodDescriptor Z.1.desc = some sig → As.length = sig.parameters.length := fun sig h => by
    rw [h] at hn3
    exact hn.trans (Option.some.inj hn3).symm
  obtain ⟨v, vm₁, B, hW₁, X', ⟨g, mk, t, L, b1, b2, ⟨q, ce, M', hv, ⟨c1, c2, c3⟩, hp, hB, hF⟩, b3, b4, b5, b6⟩, stp⟩ := X.virtualThrows hx.1 hown (hts _ hlk) hdecl hnf (hts _ hi2) (hts _ hi1) ⟨hn1, hn2⟩ hK hB3 ⟨cellB, by rw [hT]; exact hB1, rfl, hB2⟩
    (g := F0 (zm f.1) pc ls st) rfl (hls.1.trans hx.2.2.1.symm) (Steps.refl _) (argsL := As) (rest := rest) hlen hst (lv_room hw) (by rw [hx.2.1]; exact hd) (fun vm₁ h => ⟨hcs.1, hcs.2, hpc (T.setVm vm₁) hT h⟩)
  cases hv
  have hcl : (zs f.1).vm.findClass C = some ce.cls := by
    have h9 : vm₁.findClass C = some ce.cls := c3
    rw [hW₁.alike.findClass] at h9
    exact h9
  have hcc : B.U.heap[v]? = some ce := by rw [b1]; exact c1
  obtain ⟨c5, c6, hc5, hc6, hasg⟩ := Cond.castable_spec (va_Nw.use (A := za f.1) rfl (hK9.2.1 _ hcast))
  cases Option.some.inj (hcl.symm.trans hc5)
  obtain ⟨hend, hk0⟩ := X'.catches_of_link hown h0 (hts _ hxl) hc6 hasg
  have hpl : (ze f.1).platform.magicAccessors = ({} : Platform).magicAccessors := by rw [X.admits.platform]
  obtain ⟨vm', XV, st9⟩ := X'.thenCaughtThrough v (g := { F0 (zm f.1) pc ls st with stack := rest }) rfl stp hcc (by rw [c2]; rfl) hk0 pre x suf hsplit (fun z hz9 => by
      obtain ⟨z0, nm, z1, z2⟩ := hpass z hz9
      obtain ⟨c7, c8, hc7, hc8, hna⟩ := hK9.2.2.2.2 _ z2
      obtain ⟨c9, hc9, hcl9⟩ := Cond.classLink_spec hown (hts _ z1) (ze f.1).platform hpl
      cases Option.some.inj (hc7.symm.trans hcl)
      cases Option.some.inj (hc8.symm.trans hc9)
      exact Or.inr ⟨z0, _, hcl9, hna⟩) hcov hend
  obtain ⟨hz1, hR1, hK1, hlo1, hO1⟩ := hB
  obtain ⟨hF1, hF2⟩ := hF
  have hst0 : ((T.setVm vm₁).calling g mk (Value.ref b :: As).toArray).heap = H := hT
  rw [hst0] at hF1 hF2
  rw [b3, b5, b6] at XV
  obtain ⟨t2, a1, a2⟩ := kk9 v M' hp t.heap (locs ++ L) ls hz1 hR1 ⟨Nat.le_trans hS.1 hF1, fun q h1 h2 => by rw [hF2 q (Nat.lt_of_lt_of_le h1 hS.1) h2]; exact hS.2.1 q h1 h2, fun q hq => (List.mem_append.mp hq).elim (hS.2.2 q) (b4 q)⟩ hls (B.U.setVm vm') b1 XV
  exact ⟨t2, st9.trans a1, a2⟩
end ZXB
/-! methods with an exception table, that return -/
def zCw (l : Launch) (E : zE) (Y : zY) (hh : List (Nat × Nat × Nat × Nat)) (d : Nat) (k : Nat × Nat) (av : List Value) (Γ : zG) (n : Nat) (M : zM) (post : zP) : Prop :=
  Met l Y.1 (Cond.codeWith Y.1 Y.2.1 Y.2.2.1 Y.2.2.2 hh :: zWs) (zRm d k) (va_Pc av (zB E Γ n M)) (zQ E post) k.1 k.2 (zA E)
def zEx (h : Nat × Nat × Nat × Nat) : ExceptionTableEntry := ⟨h.1, h.2.1, h.2.2.1, h.2.2.2⟩
theorem zEx_map {L : List ExceptionTableEntry} {hh : List (Nat × Nat × Nat × Nat)} (h : L.map (fun h => (h.startPc, h.endPc, h.handlerPc, h.catchType)) = hh) : L = hh.map zEx := by
  subst h
  rw [List.map_map]
  exact (List.map_id L).symm
theorem zCw.of {l : Launch} {E : zE} {Y : zY} {hh : List (Nat × Nat × Nat × Nat)} {d : Nat} {kk : Nat × Nat} {av : List Value} {Γ : zG} {n : Nat} {M : zM} {post : zP} (lc : List (Nat × Value)) (hy : plainName Y.1.cls = true) (hav : (lg_sl av).length ≤ Y.2.2.1) (hlc : lv_args 0 av = lc)
    (body : ∀ f : zF, zll f.1 = l → zOk f E Y d kk → (zco f.1).exceptionTable.toList = hh.map zEx → zEnd f E post kk → zGo f E Γ n (0, 0) M 0 lc []) : zCw l E Y hh d kk av Γ n M post := by
  refine va_MetW (cc := Y.2.1) (maxL := Y.2.2.1) (ret := Y.2.2.2) (hh := hh) hy rfl ?_
  intro p e s m args below meth c s₁ B hml hv
  obtain ⟨rfl, hz, hR, hK, hlo, hold⟩ := hv
  have hts := atoms_spec (ws := Cond.codeWith Y.1 Y.2.1 Y.2.2.1 Y.2.2.2 hh :: zWs) B.pre
  have htab : c.exceptionTable.toList = hh.map zEx := by
    obtain ⟨m9, meth9, c9, h1, h2, h3, -, -, h4, -⟩ := Cond.codeWith_spec (hts _ List.mem_cons_self)
    cases B.named.symm.trans h1
    cases B.method.symm.trans h2
    cases (Stand.of_body B).code.symm.trans h3
    exact zEx_map h4
  rw [lg_entry_eq]
  have hl := lv_entry av (n := Y.2.2.1) hav
  rw [hlc] at hl
  exact body ((p, l, e, zRm d kk, s, m, av.toArray, below, meth, c), Y.2.2.1, MQ below (zQ E post) av.toArray s kk.1 kk.2 (zA E)) rfl
    ⟨B.exec, B.bytes, hml, findClass_of_methodNamed B.named, fun w hw => hts w (List.mem_cons_of_mem _ hw), hK, B.notSynchronized, by show zlo E ≤ s.heap.size; rw [hz]; exact hlo, B.returns, rfl, fun h => (name_of_methodNamed B.named B.method).1.trans h, Nat.le_refl _, Nat.le_refl _, ⟨Nat.le_refl _, hold⟩, Nat.le_refl _⟩ htab (fun t h => h) s.heap [] _ hz hR va_S.rf hl
/-- invokestatic of a method with an exception table -/
def zLw (own : String) (i : Nat) (Z : zY) (hh : List (Nat × Nat × Nat × Nat)) (a : Nat) : Prop :=
  Cond.methodLink own i Z.1 ∈ zWs ∧ Cond.static Z.1 ∈ zWs ∧ Cond.initialized Z.1.cls ∈ zWs ∧ Cond.codeWith Z.1 Z.2.1 Z.2.2.1 Z.2.2.2 hh ∈ zWs ∧
  Z.1.cls ≠ "java/lang/invoke/MethodHandle" ∧ Z.1.cls ≠ "java/lang/invoke/VarHandle" ∧ (parseMethodDescriptor Z.1.desc).map (fun d => d.parameters.length) = some a ∧ Z.2.2.1 ≤ 21
section ZXC
variable {f : zF} {E : zE} {Y : zY} {d : Nat} {kk : Nat × Nat} {Γ : zG} {n : Nat} {k k' : Nat × Nat} {M : zM} {pc q : Nat} {lc : List (Nat × Value)} {st rest : List Value}
theorem zrunW {i a d' : Nat} {Z : zY} {hh : List (Nat × Nat × Nat × Nat)} {As : List Value} {post : zP} (hx : zOk f E Y d kk) (hd : decode Y.2.1 pc = .ok (.invokestatic i, 3)) (hl : zLw Y.1.cls i Z hh a)
    (hn : As.length = a) (hst : st = As.reverse ++ rest) (hw : (rest.map fun v => v.category).sum ≤ 8) (hdd : d' + 1 ≤ d) (hk1 : k.1 + k'.1 ≤ kk.1) (hk2 : k.2 + k'.2 ≤ kk.2) (hM : zCw (zll f.1) E Z hh d' k' As Γ n M post) : zRun f E Γ n k M pc lc st rest k' post := by
  intro H locs ls hz hR hS hls
  have hpc := z_pc hx hz hR hS As
  obtain ⟨hlk, hi1, hi3, hi4, hn1, hn2, hn3, hn4⟩ := hl
  have hroom := z_rm (k' := k') hx hdd hn4
  have hcs := z_cl hx (k := k) (k' := k') (h1 := hk1) (h2 := hk2)
  have hts := hx.2.2.2.2.1
  have hwd : ∀ w ∈ Cond.codeWith Z.1 Z.2.1 Z.2.2.1 Z.2.2.2 hh :: zWs, w ∈ zWs := fun w hw => (List.mem_cons.mp hw).elim (fun e => by rw [e]; exact hi4) id
  have hwa : ∀ w ∈ zWs, ∀ (a' : Array Value) (U : State), (zs f.1).WarmedH U.vm → w.before a' U = true := fun w hw a' U hW => word_at hW (good_of_word (zWs_good w hw)) (hts w hw)
  obtain ⟨mk, methM, cM, hnm, hmt, -, -, -, -, -, -, hsig⟩ := Cond.codeWith_spec (hts _ hi4)
  refine ⟨As.toArray, ?_⟩
  intro T hT X
  have hK : Free.Back (zll f.1) (zRo f.1) (zp f.1) (ze f.1) (zbe f.1) (zs f.1) (za f.1) Z.1 3 8 (PreOf (zRo f.1) k'.1 k'.2 (va_Pc As (zB E Γ n M))) (PostOf (zQ E post) k'.1 k'.2 (zA E)) :=
    va_backW (bytes := Z.2.1) (maxL := Z.2.2.1) (ret := Z.2.2.2) (hh := hh) hM zB.blind rfl rfl hroom.1 hroom.2 (fun w hw => hwa w (hwd w hw)) List.mem_cons_self (hwa _ hi3)
  obtain ⟨v, vm₁, ⟨U', l2, c2, s2⟩, hW₁, X', ⟨g', mk', t, L, e1, e2, hq, h1, hL, h2, h3⟩, stp⟩ := X.staticBack hx.1 hx.2.2.2.1 (hts _ hlk) (hts _ hi1) (hts _ hi3) hnm hmt hsig ⟨hn1, hn2⟩ hK
    (g := F0 (zm f.1) pc ls st) rfl (hls.1.trans hx.2.2.1.symm) (Steps.refl _) (argsL := As) (rest := rest) (fun sig h => by rw [h] at hn3; exact hn.trans (Option.some.inj hn3).symm) hst (lv_room hw) (by rw [hx.2.1]; exact hd) (fun vm₁ h => ⟨hcs.1, hcs.2, hpc (T.setVm vm₁) hT h⟩)
  dsimp only [Free.Pt.U, Free.Pt.locs, Free.Pt.cells, Free.Pt.slots] at X' e1 e2 h1 h2 h3 stp
  subst h1; subst h2; subst h3
  exact ⟨v, (T.setVm vm₁).calling g' mk' As.toArray, t, U', L, hT, X', hL, e1, e2, hq, fun tg h => stp.trans h⟩
end ZXC
