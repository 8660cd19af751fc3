/-! The frame of this proof: memory by address, and the walk over it. A cell's contents: ints, longs, references (0: null). -/
abbrev zc : Type := (Nat → Int32) × (Nat → Int64) × (Nat → Nat)
abbrev zM : Type := (Nat → Nat → Int32) × (Nat → Nat → Int64) × (Nat → Nat → Nat)
def zcl (M : zM) (a : Nat) : zc := (M.1 a, M.2.1 a, M.2.2 a)
/-- what lies at an address: (0, c): an object of class c; (1, n): n ints; (2, n): n longs; (3, n): n Reads -/
abbrev zG : Type := Nat → Option (Nat × Nat)
/-- classes and slots; the classes of int[], long[], Read[]; the least address that is ours -/
abbrev zE : Type := va_G × ClassId × ClassId × ClassId × Nat
/-- a method: name, code, locals, answer -/
abbrev zY : Type := MethodName × ByteArray × Nat × Option FieldType
abbrev zX := Program × Launch × Env × Room × State × MethodId × Array Value × List Frame × Method × Code
abbrev zF := zX × Nat × (State → Prop)
def zlo (E : zE) : Nat := E.2.2.2.2
def zA (E : zE) : Nat → Prop := fun q => zlo E ≤ q
def zo (r : Nat) : Option Nat := if r = 0 then none else some r
theorem zo_pos {r : Nat} (h : r ≠ 0) : zo r = some r := if_neg h
def zi (M : zM) (a k : Nat) : Int32 := M.1 a k
def zl (M : zM) (a k : Nat) : Int64 := M.2.1 a k
def zr (M : zM) (a k : Nat) : Nat := M.2.2 a k
def zsi (M : zM) (a k : Nat) (v : Int32) : zM := (va_up M.1 a (va_up (M.1 a) k v), M.2)
def zsl (M : zM) (a k : Nat) (v : Int64) : zM := (M.1, va_up M.2.1 a (va_up (M.2.1 a) k v), M.2.2)
def zsr (M : zM) (a k : Nat) (v : Nat) : zM := (M.1, M.2.1, va_up M.2.2 a (va_up (M.2.2 a) k v))
def zpush (M : zM) (n : Nat) : zM := (va_up M.1 n (fun _ => 0), va_up M.2.1 n (fun _ => 0), va_up M.2.2 n (fun _ => 0))
theorem zcl_si (M : zM) (a k : Nat) (v : Int32) : zcl (zsi M a k v) a = (va_up (M.1 a) k v, M.2.1 a, M.2.2 a) := by simp [zcl, zsi, va_up]
theorem zcl_sl (M : zM) (a k : Nat) (v : Int64) : zcl (zsl M a k v) a = (M.1 a, va_up (M.2.1 a) k v, M.2.2 a) := by simp [zcl, zsl, va_up]
theorem zcl_sr (M : zM) (a k v : Nat) : zcl (zsr M a k v) a = (M.1 a, M.2.1 a, va_up (M.2.2 a) k v) := by simp [zcl, zsr, va_up]
theorem zcl_pu (M : zM) (n : Nat) : zcl (zpush M n) n = (fun _ => 0, fun _ => 0, fun _ => 0) := by simp [zcl, zpush, va_up]
theorem zcl_si_n (M : zM) (a k : Nat) (v : Int32) : ∀ b, b ≠ a → zcl (zsi M a k v) b = zcl M b := fun b h => by simp [zcl, zsi, va_up, h]
theorem zcl_sl_n (M : zM) (a k : Nat) (v : Int64) : ∀ b, b ≠ a → zcl (zsl M a k v) b = zcl M b := fun b h => by simp [zcl, zsl, va_up, h]
theorem zcl_sr_n (M : zM) (a k v : Nat) : ∀ b, b ≠ a → zcl (zsr M a k v) b = zcl M b := fun b h => by simp [zcl, zsr, va_up, h]
theorem zcl_pu_n (M : zM) (n : Nat) : ∀ b, b ≠ n → zcl (zpush M n) b = zcl M b := fun b h => by simp [zcl, zpush, va_up, h]
/-- a field's value by its type -/
def zV (ty : FieldType) (x : zc) (k : Nat) : Value := match ty with
  | .long => .long (x.2.1 k)
  | .object _ => va_rf (zo (x.2.2 k))
  | .array _ => va_rf (zo (x.2.2 k))
  | _ => .int (x.1 k)
def zAt (E : zE) (sh : Nat × Nat) (a : Nat) (x : zc) (H : Heap) : Prop := match sh with
  | (0, c) => ∃ r : vw_C, zCl[c]? = some r ∧ t_OB a (E.1.1 c) r.2.2 (E.1.2 c) H (fun k => zV (zTy c k) x k)
  | (1, n) => H[a]? = some (arrV E.2.1 n (fun j => .int (x.1 j)))
  | (2, n) => H[a]? = some (arrV E.2.2.1 n (fun j => .long (x.2.1 j)))
  | (_, n) => H[a]? = some (arrV E.2.2.2.1 n (fun j => va_rf (zo (x.2.2 j))))
def zR (E : zE) (Γ : zG) (M : zM) (H : Heap) : Prop := ∀ (a : Nat) (sh : Nat × Nat), Γ a = some sh → zAt E sh a (zcl M a) H ∧ zlo E ≤ a
theorem zAt.kept {E : zE} {sh : Nat × Nat} {a : Nat} {x : zc} {H H1 : Heap} (h : zAt E sh a x H) (hq : H1[a]? = H[a]?) : zAt E sh a x H1 := by
  obtain ⟨t, n⟩ := sh
  match t, n, h with
  | 0, c, h =>
    obtain ⟨r, h1, h2⟩ := h
    exact ⟨r, h1, h2.kept hq⟩
  | 1, n, h => exact hq.trans h
  | 2, n, h => exact hq.trans h
  | t + 3, n, h => exact hq.trans h
theorem zAt.lt {E : zE} {sh : Nat × Nat} {a : Nat} {x : zc} {H : Heap} (h : zAt E sh a x H) : a < H.size := by
  obtain ⟨t, n⟩ := sh
  match t, n, h with
  | 0, c, h =>
    obtain ⟨r, h1, cell, h2, -⟩ := h
    exact (Array.getElem?_eq_some_iff.mp h2).1
  | 1, n, h => exact (Array.getElem?_eq_some_iff.mp h).1
  | 2, n, h => exact (Array.getElem?_eq_some_iff.mp h).1
  | t + 3, n, h => exact (Array.getElem?_eq_some_iff.mp h).1
theorem zR.put {E : zE} {Γ : zG} {M M' : zM} {H H1 : Heap} (h : zR E Γ M H) {a : Nat} {sh : Nat × Nat} (ha : Γ a = some sh) (hm : ∀ b, b ≠ a → zcl M' b = zcl M b) (hx : zAt E sh a (zcl M' a) H1) (ho : ∀ q : Nat, q ≠ a → H1[q]? = H[q]?) : zR E Γ M' H1 := by
  intro b sh' hb
  obtain ⟨h1, h2⟩ := h b sh' hb
  by_cases e : b = a
  · subst e
    cases hb.symm.trans ha
    exact ⟨hx, h2⟩
  · rw [hm b e]
    exact ⟨h1.kept (ho b e), h2⟩
/-- what the tables say -/
def zK (E : zE) (U : State) : Prop :=
  va_K E.1 zCl [(E.2.1, .int), (E.2.2.1, .long), (E.2.2.2.1, .object zRead)] U ∧ (∀ w ∈ zNs, va_Nw w U) ∧ va_AO zRead U ∧ (∀ x ∈ zStr, ∃ a : Nat, vk_R x.1 x.2.1 x.2.2 a U) ∧ ∀ x ∈ zNcs, va_Nc x.1 x.2 U
theorem zK.same {E : zE} {u U : State} (hv : u.vm = U.vm) (h : zK E u) : zK E U := by
  obtain ⟨h1, h2, h3, h5, h6⟩ := h
  have ha : u.vm.Alike U.vm := by rw [hv]; exact Vm.Alike.refl _
  refine ⟨va_K.moved ha h1, fun w hw => ?_, va_AO.moved ha h3, fun x hx => ?_, fun x hx => va_Nc.moved ha (h6 x hx)⟩
  · have hn := zNs_is w hw
    have h4 := h2 w hw
    cases w <;> first | exact va_Nw.same rfl hv h4 | cases hn
  · obtain ⟨a, h⟩ := h5 x hx
    exact ⟨a, vk_R.same hv.symm h⟩
theorem zK.warm {E : zE} {s U : State} (hW : s.WarmedH U.vm) (h : zK E s) : zK E U := by
  obtain ⟨h1, h2, h3, h5, h6⟩ := h
  refine ⟨va_K.moved hW.alike h1, fun w hw => ?_, va_AO.moved hW.alike h3, fun x hx => ?_, fun x hx => va_Nc.moved hW.alike (h6 x hx)⟩
  · have hn := zNs_is w hw
    have h4 := h2 w hw
    cases w <;> first | exact va_Nw.warmF hW h4 | exact va_Nw.warmM hW h4 | exact va_Nw.warmD hW h4 | exact va_Nw.warmC hW h4 | cases hn
  · obtain ⟨a, h⟩ := h5 x hx
    exact ⟨a, vk_R.warm hW h⟩
/-- a static field of the JDK's, in a cell that isn't ours -/
def zSt (A : Nat → Prop) (C nm ds : String) (U : State) (H : Heap) : Prop :=
  va_Zq C nm ds A U H ∧ ∃ (c : ClassId) (k : Class) (i : Nat) (fd : Field) (a : Nat) (cell : Cell), (U.vm.findClass C = some c ∧ U.fieldFound? C nm ds = some (c, k, i, fd) ∧ fd.isStatic = true ∧ k.statics = some a) ∧ H[a]? = some cell ∧ (cell.vm.isStatics = true ∧ cell.cls = c ∧ fd.slot < cell.slots.size) ∧ k.staticTypes[fd.slot]? = some fd.type ∧ ¬ A a
theorem zSt.moved {A : Nat → Prop} {C nm ds : String} {u U : State} {H : Heap} (hvm : u.vm.Alike U.vm) (h : zSt A C nm ds u H) : zSt A C nm ds U H := by
  obtain ⟨h0, c, k, i, fd, a, cell, ⟨h1, h2, h3, h4⟩, h5, h6, h7, h8⟩ := h
  obtain ⟨k', hk', he⟩ := State.fieldFound?_setVm hvm h2
  exact ⟨va_Zq.moved hvm h0, c, k', i, fd, a, cell, ⟨by rw [hvm.findClass]; exact h1, hk', h3, by rw [he]; exact h4⟩, h5, h6, by rw [he]; exact h7, h8⟩
theorem zSt.kept {A : Nat → Prop} {C nm ds : String} {U : State} {H H1 : Heap} (h : zSt A C nm ds U H) (hq : ∀ a : Nat, a < H.size → ¬ A a → H1[a]? = H[a]?) : zSt A C nm ds U H1 := by
  obtain ⟨h0, c, k, i, fd, a, cell, h1, h5, h6, h7, h8⟩ := h
  exact ⟨va_Zq.kept h0 hq, c, k, i, fd, a, cell, h1, by rw [hq a (Array.getElem?_eq_some_iff.mp h5).1 h8]; exact h5, h6, h7, h8⟩
/-- what is said of the heap that was there before -/
def zOld (E : zE) (U : State) (H : Heap) : Prop := zSt (zA E) "java/lang/Throwable" "UNASSIGNED_STACK" "[Ljava/lang/StackTraceElement;" U H ∧ zSt (zA E) "java/lang/Throwable" "SUPPRESSED_SENTINEL" "Ljava/util/List;" U H
theorem zOld.moved {E : zE} {u U : State} {H : Heap} (hvm : u.vm.Alike U.vm) (h : zOld E u H) : zOld E U H := ⟨h.1.moved hvm, h.2.moved hvm⟩
theorem zOld.kept {E : zE} {U : State} {H H1 : Heap} {locs : List Loc} (h : zOld E U H) (hS : va_S (zA E) H H1 locs) : zOld E U H1 := ⟨h.1.kept hS.2.1, h.2.kept hS.2.1⟩
/-- the world at a state -/
def zB (E : zE) (Γ : zG) (n : Nat) (M : zM) (U : State) : Prop := U.heap.size = n ∧ zR E Γ M U.heap ∧ zK E U ∧ zlo E ≤ n ∧ zOld E U U.heap
theorem zB.blind {E : zE} {Γ : zG} {n : Nat} {M : zM} {av : List Value} : FrameBlind (va_Pc av (zB E Γ n M)) := by
  intro a U g mk h
  obtain ⟨h1, h2, h3, h4, h5, h6⟩ := h
  exact ⟨h1, h2, h3, zK.same (u := U) (U := U.calling g mk a) rfl h4, h5, zOld.moved (u := U) (U := U.calling g mk a) (Vm.Alike.refl U.vm) h6⟩
/-- what a method leaves -/
abbrev zP : Type := Option Value → zG → Nat → zM → Prop
def zQ (E : zE) (post : zP) : Array Value → State → Outcome → State → Prop := fun _ st o t =>
  (∃ (v : Option Value) (Γ : zG) (n : Nat) (M : zM), o = .returned v ∧ post v Γ n M ∧ zB E Γ n M t) ∧ va_F (zA E) st t
def zRm (d : Nat) (k : Nat × Nat) : Room := { frames := d, cells := k.1, slots := k.2, locals := 40 * d }
/-- the contract of a method Y, of height d, that makes at most k -/
def zCt (l : Launch) (E : zE) (Y : zY) (d : Nat) (k : Nat × Nat) (av : List Value) (Γ : zG) (n : Nat) (M : zM) (post : zP) : Prop :=
  Met l Y.1 (Cond.code Y.1 Y.2.1 Y.2.2.1 Y.2.2.2 :: zWs) (zRm d k) (va_Pc av (zB E Γ n M)) (zQ E post) k.1 k.2 (zA E)
/-- no cell comes, and v is void, an int, a long -/
def zPv (Γ : zG) (n : Nat) (post : zM → Prop) : zP := fun v Γ' n' M => v = none ∧ Γ' = Γ ∧ n' = n ∧ post M
def zPi (Γ : zG) (n : Nat) (post : Int32 → zM → Prop) : zP := fun v Γ' n' M => ∃ r : Int32, v = some (.int r) ∧ Γ' = Γ ∧ n' = n ∧ post r M
def zPl (Γ : zG) (n : Nat) (post : Int64 → zM → Prop) : zP := fun v Γ' n' M => ∃ r : Int64, v = some (.long r) ∧ Γ' = Γ ∧ n' = n ∧ post r M
def zPc (post : zG → Nat → zM → Prop) : zP := fun v Γ' n' M => v = none ∧ post Γ' n' M
section ZA
abbrev zp (x : zX) : Program := x.1
abbrev zll (x : zX) : Launch := x.2.1
abbrev ze (x : zX) : Env := x.2.2.1
abbrev zRo (x : zX) : Room := x.2.2.2.1
abbrev zs (x : zX) : State := x.2.2.2.2.1
abbrev zm (x : zX) : MethodId := x.2.2.2.2.2.1
abbrev za (x : zX) : Array Value := x.2.2.2.2.2.2.1
abbrev zbe (x : zX) : List Frame := x.2.2.2.2.2.2.2.1
abbrev zme (x : zX) : Method := x.2.2.2.2.2.2.2.2.1
abbrev zco (x : zX) : Code := x.2.2.2.2.2.2.2.2.2
end ZA
/-- what holds all through a method's walk -/
def zOk (f : zF) (E : zE) (Y : zY) (d : Nat) (kk : Nat × Nat) : Prop :=
  (zp f.1).tables.exec = Jvm.exec ∧ (zco f.1).code = Y.2.1 ∧ (zco f.1).maxLocals = f.2.1 ∧ (zs f.1).vm.findClass Y.1.cls = some (zm f.1).cls ∧ (∀ w ∈ zWs, w.before (za f.1) (zs f.1) = true) ∧
  zK E (zs f.1) ∧ (zme f.1).locks = false ∧ zlo E ≤ (zs f.1).heap.size ∧ (zme f.1).sig.returnType = Y.2.2.2 ∧ f.2.1 = Y.2.2.1 ∧ (Y.1.name = "<init>" → (zme f.1).name = "<init>") ∧
  d ≤ (zRo f.1).frames ∧ 40 * d ≤ (zRo f.1).locals ∧ (kk.1 ≤ (zRo f.1).cells ∧ zOld E (zs f.1) (zs f.1).heap) ∧ kk.2 ≤ (zRo f.1).slots
/-- the walk: at pc, with locals lc and stack st, over the memory M -/
def zGo (f : zF) (E : zE) (Γ : zG) (n : Nat) (k : Nat × Nat) (M : zM) (pc : Nat) (lc : List (Nat × Value)) (st : List Value) : Prop :=
  ∀ (H : Heap) (locs : List Loc) (ls : Array Slot), H.size = n → zR E Γ M H → va_S (zA E) (zs f.1).heap H locs → lv_has ls f.2.1 lc →
    W (zp f.1) (zll f.1) (ze f.1) (zRo f.1) (zs f.1) (zm f.1) (za f.1) (zbe f.1) (zme f.1) (zco f.1) H locs k.1 k.2 f.2.2 (F0 (zm f.1) pc ls st)
/-- the end that a method's walk owes -/
def zEnd (f : zF) (E : zE) (post : zP) (kk : Nat × Nat) : Prop := ∀ t, MQ (zbe f.1) (zQ E post) (za f.1) (zs f.1) kk.1 kk.2 (zA E) t → f.2.2 t
def zget : List (Nat × Value) → Nat → Option Value
  | [], _ => none
  | q :: r, i => bif Nat.beq q.1 i then some q.2 else zget r i
theorem zget_mem : ∀ {lc : List (Nat × Value)} {i : Nat} {v : Value}, zget lc i = some v → (i, v) ∈ lc
  | [], i, v, h => by cases h
  | (j, w) :: r, i, v, h => by
    unfold zget at h
    cases hb : Nat.beq j i with
    | true =>
      simp only [hb, cond_true] at h
      cases h
      rw [Nat.eq_of_beq_eq_true hb]
      exact List.mem_cons_self
    | false =>
      simp only [hb, cond_false] at h
      exact List.mem_cons_of_mem _ (zget_mem h)
theorem z_at {ls : Array Slot} {nL : Nat} {lc : List (Nat × Value)} {i : Nat} {v : Value} (h : lv_has ls nL lc) (hg : zget lc i = some v) : ls[i]? = some (.val v) := h.2.2 (i, v) (zget_mem hg)
theorem z_place : ∀ {lc : List (Nat × Value)} {i : Nat} {v : Value}, zget lc i = some v → ∃ k : Nat, lc[k]? = some (i, v) := fun h => List.getElem?_of_mem (zget_mem h)
/-- locals behind a store -/
def zput1 (lc : List (Nat × Value)) (i : Nat) (v : Value) : List (Nat × Value) := (i, v) :: lc.filter (fun q => !(q.1 == i) && !(q.1 + 1 == i && q.2.category == 2))
def zput2 (lc : List (Nat × Value)) (i : Nat) (v : Value) : List (Nat × Value) := (i, v) :: lc.filter (fun q => !(q.1 == i) && (!(q.1 == i + 1) && !(q.1 + 1 == i && q.2.category == 2)))
theorem g_iadd {f : zF} {E : zE} {Y : zY} {d : Nat} {kk : Nat × Nat} {Γ : zG} {n : Nat} {k : Nat × Nat} {M : zM} {pc q : Nat} {lc : List (Nat × Value)} {st : List Value} {x y v : Int32} (hx : zOk f E Y d kk) (hd : decode Y.2.1 pc = .ok (.iadd, 1)) (hq : pc + 1 = q) (hv : x + y = v) (kk9 : zGo f E Γ n k M q lc (.int v :: st)) : zGo f E Γ n k M pc lc (.int y :: .int x :: st) := by
  obtain ⟨⟨p, l, e, R, s, m, args, below, meth, c⟩, nL, Q⟩ := f
  subst hq
  intro H locs ls hz hR hS hl
  subst hv
  exact lv_iadd hx.1 hx.2.1 hd (kk9 H locs ls hz hR hS hl)
theorem g_isub {f : zF} {E : zE} {Y : zY} {d : Nat} {kk : Nat × Nat} {Γ : zG} {n : Nat} {k : Nat × Nat} {M : zM} {pc q : Nat} {lc : List (Nat × Value)} {st : List Value} {x y v : Int32} (hx : zOk f E Y d kk) (hd : decode Y.2.1 pc = .ok (.isub, 1)) (hq : pc + 1 = q) (hv : x - y = v) (kk9 : zGo f E Γ n k M q lc (.int v :: st)) : zGo f E Γ n k M pc lc (.int y :: .int x :: st) := by
  obtain ⟨⟨p, l, e, R, s, m, args, below, meth, c⟩, nL, Q⟩ := f
  subst hq
  intro H locs ls hz hR hS hl
  subst hv
  exact lv_isub hx.1 hx.2.1 hd (kk9 H locs ls hz hR hS hl)
theorem g_imul {f : zF} {E : zE} {Y : zY} {d : Nat} {kk : Nat × Nat} {Γ : zG} {n : Nat} {k : Nat × Nat} {M : zM} {pc q : Nat} {lc : List (Nat × Value)} {st : List Value} {x y v : Int32} (hx : zOk f E Y d kk) (hd : decode Y.2.1 pc = .ok (.imul, 1)) (hq : pc + 1 = q) (hv : x * y = v) (kk9 : zGo f E Γ n k M q lc (.int v :: st)) : zGo f E Γ n k M pc lc (.int y :: .int x :: st) := by
  obtain ⟨⟨p, l, e, R, s, m, args, below, meth, c⟩, nL, Q⟩ := f
  subst hq
  intro H locs ls hz hR hS hl
  subst hv
  exact lv_imul hx.1 hx.2.1 hd (kk9 H locs ls hz hR hS hl)
theorem g_iand {f : zF} {E : zE} {Y : zY} {d : Nat} {kk : Nat × Nat} {Γ : zG} {n : Nat} {k : Nat × Nat} {M : zM} {pc q : Nat} {lc : List (Nat × Value)} {st : List Value} {x y v : Int32} (hx : zOk f E Y d kk) (hd : decode Y.2.1 pc = .ok (.iand, 1)) (hq : pc + 1 = q) (hv : x &&& y = v) (kk9 : zGo f E Γ n k M q lc (.int v :: st)) : zGo f E Γ n k M pc lc (.int y :: .int x :: st) := by
  obtain ⟨⟨p, l, e, R, s, m, args, below, meth, c⟩, nL, Q⟩ := f
  subst hq
  intro H locs ls hz hR hS hl
  subst hv
  exact lv_iand hx.1 hx.2.1 hd (kk9 H locs ls hz hR hS hl)
theorem g_ior {f : zF} {E : zE} {Y : zY} {d : Nat} {kk : Nat × Nat} {Γ : zG} {n : Nat} {k : Nat × Nat} {M : zM} {pc q : Nat} {lc : List (Nat × Value)} {st : List Value} {x y v : Int32} (hx : zOk f E Y d kk) (hd : decode Y.2.1 pc = .ok (.ior, 1)) (hq : pc + 1 = q) (hv : x ||| y = v) (kk9 : zGo f E Γ n k M q lc (.int v :: st)) : zGo f E Γ n k M pc lc (.int y :: .int x :: st) := by
  obtain ⟨⟨p, l, e, R, s, m, args, below, meth, c⟩, nL, Q⟩ := f
  subst hq
  intro H locs ls hz hR hS hl
  subst hv
  exact lv_ior hx.1 hx.2.1 hd (kk9 H locs ls hz hR hS hl)
theorem g_ixor {f : zF} {E : zE} {Y : zY} {d : Nat} {kk : Nat × Nat} {Γ : zG} {n : Nat} {k : Nat × Nat} {M : zM} {pc q : Nat} {lc : List (Nat × Value)} {st : List Value} {x y v : Int32} (hx : zOk f E Y d kk) (hd : decode Y.2.1 pc = .ok (.ixor, 1)) (hq : pc + 1 = q) (hv : x ^^^ y = v) (kk9 : zGo f E Γ n k M q lc (.int v :: st)) : zGo f E Γ n k M pc lc (.int y :: .int x :: st) := by
  obtain ⟨⟨p, l, e, R, s, m, args, below, meth, c⟩, nL, Q⟩ := f
  subst hq
  intro H locs ls hz hR hS hl
  subst hv
  exact lv_ixor hx.1 hx.2.1 hd (kk9 H locs ls hz hR hS hl)
theorem g_idiv {f : zF} {E : zE} {Y : zY} {d : Nat} {kk : Nat × Nat} {Γ : zG} {n : Nat} {k : Nat × Nat} {M : zM} {pc q : Nat} {lc : List (Nat × Value)} {st : List Value} {x y v : Int32} (hx : zOk f E Y d kk) (hd : decode Y.2.1 pc = .ok (.idiv, 1)) (hq : pc + 1 = q) (hne : ¬ y = 0) (hv : x / y = v) (kk9 : zGo f E Γ n k M q lc (.int v :: st)) : zGo f E Γ n k M pc lc (.int y :: .int x :: st) := by
  obtain ⟨⟨p, l, e, R, s, m, args, below, meth, c⟩, nL, Q⟩ := f
  subst hq
  intro H locs ls hz hR hS hl
  subst hv
  exact lv_idiv hx.1 hx.2.1 hd hne (kk9 H locs ls hz hR hS hl)
theorem g_irem {f : zF} {E : zE} {Y : zY} {d : Nat} {kk : Nat × Nat} {Γ : zG} {n : Nat} {k : Nat × Nat} {M : zM} {pc q : Nat} {lc : List (Nat × Value)} {st : List Value} {x y v : Int32} (hx : zOk f E Y d kk) (hd : decode Y.2.1 pc = .ok (.irem, 1)) (hq : pc + 1 = q) (hne : ¬ y = 0) (hv : x - x / y * y = v) (kk9 : zGo f E Γ n k M q lc (.int v :: st)) : zGo f E Γ n k M pc lc (.int y :: .int x :: st) := by
  obtain ⟨⟨p, l, e, R, s, m, args, below, meth, c⟩, nL, Q⟩ := f
  subst hq
  intro H locs ls hz hR hS hl
  subst hv
  exact lv_irem hx.1 hx.2.1 hd hne (kk9 H locs ls hz hR hS hl)
theorem g_ishl {f : zF} {E : zE} {Y : zY} {d : Nat} {kk : Nat × Nat} {Γ : zG} {n : Nat} {k : Nat × Nat} {M : zM} {pc q : Nat} {lc : List (Nat × Value)} {st : List Value} {x y v : Int32} (hx : zOk f E Y d kk) (hd : decode Y.2.1 pc = .ok (.ishl, 1)) (hq : pc + 1 = q) (hv : x <<< (y &&& 31) = v) (kk9 : zGo f E Γ n k M q lc (.int v :: st)) : zGo f E Γ n k M pc lc (.int y :: .int x :: st) := by
  obtain ⟨⟨p, l, e, R, s, m, args, below, meth, c⟩, nL, Q⟩ := f
  subst hq
  intro H locs ls hz hR hS hl
  subst hv
  exact lv_ishl hx.1 hx.2.1 hd (kk9 H locs ls hz hR hS hl)
theorem g_ishr {f : zF} {E : zE} {Y : zY} {d : Nat} {kk : Nat × Nat} {Γ : zG} {n : Nat} {k : Nat × Nat} {M : zM} {pc q : Nat} {lc : List (Nat × Value)} {st : List Value} {x y v : Int32} (hx : zOk f E Y d kk) (hd : decode Y.2.1 pc = .ok (.ishr, 1)) (hq : pc + 1 = q) (hv : x >>> (y &&& 31) = v) (kk9 : zGo f E Γ n k M q lc (.int v :: st)) : zGo f E Γ n k M pc lc (.int y :: .int x :: st) := by
  obtain ⟨⟨p, l, e, R, s, m, args, below, meth, c⟩, nL, Q⟩ := f
  subst hq
  intro H locs ls hz hR hS hl
  subst hv
  exact lv_ishr hx.1 hx.2.1 hd (kk9 H locs ls hz hR hS hl)
theorem g_ladd {f : zF} {E : zE} {Y : zY} {d : Nat} {kk : Nat × Nat} {Γ : zG} {n : Nat} {k : Nat × Nat} {M : zM} {pc q : Nat} {lc : List (Nat × Value)} {st : List Value} {x y v : Int64} (hx : zOk f E Y d kk) (hd : decode Y.2.1 pc = .ok (.ladd, 1)) (hq : pc + 1 = q) (hv : x + y = v) (kk9 : zGo f E Γ n k M q lc (.long v :: st)) : zGo f E Γ n k M pc lc (.long y :: .long x :: st) := by
  obtain ⟨⟨p, l, e, R, s, m, args, below, meth, c⟩, nL, Q⟩ := f
  subst hq
  intro H locs ls hz hR hS hl
  subst hv
  exact lv_ladd hx.1 hx.2.1 hd (kk9 H locs ls hz hR hS hl)
theorem g_lsub {f : zF} {E : zE} {Y : zY} {d : Nat} {kk : Nat × Nat} {Γ : zG} {n : Nat} {k : Nat × Nat} {M : zM} {pc q : Nat} {lc : List (Nat × Value)} {st : List Value} {x y v : Int64} (hx : zOk f E Y d kk) (hd : decode Y.2.1 pc = .ok (.lsub, 1)) (hq : pc + 1 = q) (hv : x - y = v) (kk9 : zGo f E Γ n k M q lc (.long v :: st)) : zGo f E Γ n k M pc lc (.long y :: .long x :: st) := by
  obtain ⟨⟨p, l, e, R, s, m, args, below, meth, c⟩, nL, Q⟩ := f
  subst hq
  intro H locs ls hz hR hS hl
  subst hv
  exact lv_lsub hx.1 hx.2.1 hd (kk9 H locs ls hz hR hS hl)
theorem g_lmul {f : zF} {E : zE} {Y : zY} {d : Nat} {kk : Nat × Nat} {Γ : zG} {n : Nat} {k : Nat × Nat} {M : zM} {pc q : Nat} {lc : List (Nat × Value)} {st : List Value} {x y v : Int64} (hx : zOk f E Y d kk) (hd : decode Y.2.1 pc = .ok (.lmul, 1)) (hq : pc + 1 = q) (hv : x * y = v) (kk9 : zGo f E Γ n k M q lc (.long v :: st)) : zGo f E Γ n k M pc lc (.long y :: .long x :: st) := by
  obtain ⟨⟨p, l, e, R, s, m, args, below, meth, c⟩, nL, Q⟩ := f
  subst hq
  intro H locs ls hz hR hS hl
  subst hv
  exact lv_lmul hx.1 hx.2.1 hd (kk9 H locs ls hz hR hS hl)
theorem g_land {f : zF} {E : zE} {Y : zY} {d : Nat} {kk : Nat × Nat} {Γ : zG} {n : Nat} {k : Nat × Nat} {M : zM} {pc q : Nat} {lc : List (Nat × Value)} {st : List Value} {x y v : Int64} (hx : zOk f E Y d kk) (hd : decode Y.2.1 pc = .ok (.land, 1)) (hq : pc + 1 = q) (hv : x &&& y = v) (kk9 : zGo f E Γ n k M q lc (.long v :: st)) : zGo f E Γ n k M pc lc (.long y :: .long x :: st) := by
  obtain ⟨⟨p, l, e, R, s, m, args, below, meth, c⟩, nL, Q⟩ := f
  subst hq
  intro H locs ls hz hR hS hl
  subst hv
  exact lv_land hx.1 hx.2.1 hd (kk9 H locs ls hz hR hS hl)
theorem g_ldiv {f : zF} {E : zE} {Y : zY} {d : Nat} {kk : Nat × Nat} {Γ : zG} {n : Nat} {k : Nat × Nat} {M : zM} {pc q : Nat} {lc : List (Nat × Value)} {st : List Value} {x y v : Int64} (hx : zOk f E Y d kk) (hd : decode Y.2.1 pc = .ok (.ldiv, 1)) (hq : pc + 1 = q) (hne : ¬ y = 0) (hv : x / y = v) (kk9 : zGo f E Γ n k M q lc (.long v :: st)) : zGo f E Γ n k M pc lc (.long y :: .long x :: st) := by
  obtain ⟨⟨p, l, e, R, s, m, args, below, meth, c⟩, nL, Q⟩ := f
  subst hq
  intro H locs ls hz hR hS hl
  subst hv
  exact lv_ldiv hx.1 hx.2.1 hd hne (kk9 H locs ls hz hR hS hl)
theorem g_lrem {f : zF} {E : zE} {Y : zY} {d : Nat} {kk : Nat × Nat} {Γ : zG} {n : Nat} {k : Nat × Nat} {M : zM} {pc q : Nat} {lc : List (Nat × Value)} {st : List Value} {x y v : Int64} (hx : zOk f E Y d kk) (hd : decode Y.2.1 pc = .ok (.lrem, 1)) (hq : pc + 1 = q) (hne : ¬ y = 0) (hv : x - x / y * y = v) (kk9 : zGo f E Γ n k M q lc (.long v :: st)) : zGo f E Γ n k M pc lc (.long y :: .long x :: st) := by
  obtain ⟨⟨p, l, e, R, s, m, args, below, meth, c⟩, nL, Q⟩ := f
  subst hq
  intro H locs ls hz hR hS hl
  subst hv
  exact lv_lrem hx.1 hx.2.1 hd hne (kk9 H locs ls hz hR hS hl)
theorem g_iushr {f : zF} {E : zE} {Y : zY} {d : Nat} {kk : Nat × Nat} {Γ : zG} {n : Nat} {k : Nat × Nat} {M : zM} {pc q : Nat} {lc : List (Nat × Value)} {st : List Value} {x y v : Int32} (hx : zOk f E Y d kk) (hd : decode Y.2.1 pc = .ok (.iushr, 1)) (hq : pc + 1 = q) (hv : (x.toUInt32 >>> (y.toUInt32 &&& Int32.toUInt32 31)).toInt32 = v) (kk9 : zGo f E Γ n k M q lc (.int v :: st)) : zGo f E Γ n k M pc lc (.int y :: .int x :: st) := by
  obtain ⟨⟨p, l, e, R, s, m, args, below, meth, c⟩, nL, Q⟩ := f
  subst hq
  intro H locs ls hz hR hS hl
  exact lv_iushr hx.1 hx.2.1 hd hv (kk9 H locs ls hz hR hS hl)
theorem g_lshr {f : zF} {E : zE} {Y : zY} {d : Nat} {kk : Nat × Nat} {Γ : zG} {n : Nat} {k : Nat × Nat} {M : zM} {pc q : Nat} {lc : List (Nat × Value)} {st : List Value} {x v : Int64} {y : Int32} (hx : zOk f E Y d kk) (hd : decode Y.2.1 pc = .ok (.lshr, 1)) (hq : pc + 1 = q) (hv : x >>> (y.toInt64 &&& 63) = v) (kk9 : zGo f E Γ n k M q lc (.long v :: st)) : zGo f E Γ n k M pc lc (.int y :: .long x :: st) := by
  obtain ⟨⟨p, l, e, R, s, m, args, below, meth, c⟩, nL, Q⟩ := f
  subst hq
  intro H locs ls hz hR hS hl
  exact lv_lshr hx.1 hx.2.1 hd hv (kk9 H locs ls hz hR hS hl)
theorem g_lshl {f : zF} {E : zE} {Y : zY} {d : Nat} {kk : Nat × Nat} {Γ : zG} {n : Nat} {k : Nat × Nat} {M : zM} {pc q : Nat} {lc : List (Nat × Value)} {st : List Value} {x v : Int64} {y : Int32} (hx : zOk f E Y d kk) (hd : decode Y.2.1 pc = .ok (.lshl, 1)) (hq : pc + 1 = q) (hv : x <<< (y.toInt64 &&& 63) = v) (kk9 : zGo f E Γ n k M q lc (.long v :: st)) : zGo f E Γ n k M pc lc (.int y :: .long x :: st) := by
  obtain ⟨⟨p, l, e, R, s, m, args, below, meth, c⟩, nL, Q⟩ := f
  subst hq
  intro H locs ls hz hR hS hl
  exact lv_lshl hx.1 hx.2.1 hd hv (kk9 H locs ls hz hR hS hl)
theorem g_i2l {f : zF} {E : zE} {Y : zY} {d : Nat} {kk : Nat × Nat} {Γ : zG} {n : Nat} {k : Nat × Nat} {M : zM} {pc q : Nat} {lc : List (Nat × Value)} {st : List Value} {x : Int32} {v : Int64} (hx : zOk f E Y d kk) (hd : decode Y.2.1 pc = .ok (.i2l, 1)) (hq : pc + 1 = q) (hv : x.toInt64 = v) (kk9 : zGo f E Γ n k M q lc (.long v :: st)) : zGo f E Γ n k M pc lc (.int x :: st) := by
  obtain ⟨⟨p, l, e, R, s, m, args, below, meth, c⟩, nL, Q⟩ := f
  subst hq
  intro H locs ls hz hR hS hl
  exact lv_i2l hx.1 hx.2.1 hd hv (kk9 H locs ls hz hR hS hl)
theorem g_l2i {f : zF} {E : zE} {Y : zY} {d : Nat} {kk : Nat × Nat} {Γ : zG} {n : Nat} {k : Nat × Nat} {M : zM} {pc q : Nat} {lc : List (Nat × Value)} {st : List Value} {x : Int64} {v : Int32} (hx : zOk f E Y d kk) (hd : decode Y.2.1 pc = .ok (.l2i, 1)) (hq : pc + 1 = q) (hv : x.toInt32 = v) (kk9 : zGo f E Γ n k M q lc (.int v :: st)) : zGo f E Γ n k M pc lc (.long x :: st) := by
  obtain ⟨⟨p, l, e, R, s, m, args, below, meth, c⟩, nL, Q⟩ := f
  subst hq
  intro H locs ls hz hR hS hl
  exact lv_l2i hx.1 hx.2.1 hd hv (kk9 H locs ls hz hR hS hl)
theorem g_lcmp {f : zF} {E : zE} {Y : zY} {d : Nat} {kk : Nat × Nat} {Γ : zG} {n : Nat} {k : Nat × Nat} {M : zM} {pc q : Nat} {lc : List (Nat × Value)} {st : List Value} {x y : Int64} (hx : zOk f E Y d kk) (hd : decode Y.2.1 pc = .ok (.lcmp, 1)) (hq : pc + 1 = q) (kk9 : zGo f E Γ n k M q lc (.int (lg_cmp x y) :: st)) : zGo f E Γ n k M pc lc (.long y :: .long x :: st) := by
  obtain ⟨⟨p, l, e, R, s, m, args, below, meth, c⟩, nL, Q⟩ := f
  subst hq
  intro H locs ls hz hR hS hl
  exact W.lcmp hx.1 hx.2.1 hd (kk9 H locs ls hz hR hS hl)
theorem g_iconst {f : zF} {E : zE} {Y : zY} {d : Nat} {kk : Nat × Nat} {Γ : zG} {n : Nat} {k : Nat × Nat} {M : zM} {pc q : Nat} {lc : List (Nat × Value)} {st : List Value} {z : Int} {v : Int32} (hx : zOk f E Y d kk) (hd : decode Y.2.1 pc = .ok (.iconst z, 1)) (hq : pc + 1 = q) (hv : Int32.ofInt z = v) (kk9 : zGo f E Γ n k M q lc (.int v :: st)) : zGo f E Γ n k M pc lc st := by
  obtain ⟨⟨p, l, e, R, s, m, args, below, meth, c⟩, nL, Q⟩ := f
  subst hq
  intro H locs ls hz hR hS hl
  exact lv_iconst hx.1 hx.2.1 hd hv (kk9 H locs ls hz hR hS hl)
theorem g_bipush {f : zF} {E : zE} {Y : zY} {d : Nat} {kk : Nat × Nat} {Γ : zG} {n : Nat} {k : Nat × Nat} {M : zM} {pc q : Nat} {lc : List (Nat × Value)} {st : List Value} {z : Int} {v : Int32} (hx : zOk f E Y d kk) (hd : decode Y.2.1 pc = .ok (.bipush z, 2)) (hq : pc + 2 = q) (hv : (Int8.ofInt z).toInt32 = v) (kk9 : zGo f E Γ n k M q lc (.int v :: st)) : zGo f E Γ n k M pc lc st := by
  obtain ⟨⟨p, l, e, R, s, m, args, below, meth, c⟩, nL, Q⟩ := f
  subst hq
  intro H locs ls hz hR hS hl
  exact lv_bipush hx.1 hx.2.1 hd hv (kk9 H locs ls hz hR hS hl)
theorem g_sipush {f : zF} {E : zE} {Y : zY} {d : Nat} {kk : Nat × Nat} {Γ : zG} {n : Nat} {k : Nat × Nat} {M : zM} {pc q : Nat} {lc : List (Nat × Value)} {st : List Value} {z : Int} {v : Int32} (hx : zOk f E Y d kk) (hd : decode Y.2.1 pc = .ok (.sipush z, 3)) (hq : pc + 3 = q) (hv : (Int16.ofInt z).toInt32 = v) (kk9 : zGo f E Γ n k M q lc (.int v :: st)) : zGo f E Γ n k M pc lc st := by
  obtain ⟨⟨p, l, e, R, s, m, args, below, meth, c⟩, nL, Q⟩ := f
  subst hq
  intro H locs ls hz hR hS hl
  exact lv_sipush hx.1 hx.2.1 hd hv (kk9 H locs ls hz hR hS hl)
theorem g_lconst {f : zF} {E : zE} {Y : zY} {d : Nat} {kk : Nat × Nat} {Γ : zG} {n : Nat} {k : Nat × Nat} {M : zM} {pc q : Nat} {lc : List (Nat × Value)} {st : List Value} {z : Fin 2} {v : Int64} (hx : zOk f E Y d kk) (hd : decode Y.2.1 pc = .ok (.lconst z, 1)) (hq : pc + 1 = q) (hv : Int64.ofNat (z : Nat) = v) (kk9 : zGo f E Γ n k M q lc (.long v :: st)) : zGo f E Γ n k M pc lc st := by
  obtain ⟨⟨p, l, e, R, s, m, args, below, meth, c⟩, nL, Q⟩ := f
  subst hq
  intro H locs ls hz hR hS hl
  exact lv_lconst hx.1 hx.2.1 hd hv (kk9 H locs ls hz hR hS hl)
theorem g_ldc {f : zF} {E : zE} {Y : zY} {d : Nat} {kk : Nat × Nat} {Γ : zG} {n : Nat} {k : Nat × Nat} {M : zM} {pc q : Nat} {lc : List (Nat × Value)} {st : List Value} {i : Nat} {v : Int32} (hx : zOk f E Y d kk) (hd : decode Y.2.1 pc = .ok (.ldc i, 2)) (hq : pc + 2 = q) (hw : Cond.constant Y.1.cls i v ∈ zWs) (kk9 : zGo f E Γ n k M q lc (.int v :: st)) : zGo f E Γ n k M pc lc st := by
  obtain ⟨⟨p, l, e, R, s, m, args, below, meth, c⟩, nL, Q⟩ := f
  subst hq
  intro H locs ls hz hR hS hl
  exact lv_ldc hx.1 hx.2.1 hx.2.2.2.1 (hx.2.2.2.2.1 _ hw) hd (kk9 H locs ls hz hR hS hl)
theorem g_ldc2 {f : zF} {E : zE} {Y : zY} {d : Nat} {kk : Nat × Nat} {Γ : zG} {n : Nat} {k : Nat × Nat} {M : zM} {pc q : Nat} {lc : List (Nat × Value)} {st : List Value} {i : Nat} {v : Int64} (hx : zOk f E Y d kk) (hd : decode Y.2.1 pc = .ok (.ldc2_w i, 3)) (hq : pc + 3 = q) (hw : Cond.constantLong Y.1.cls i v ∈ zWs) (kk9 : zGo f E Γ n k M q lc (.long v :: st)) : zGo f E Γ n k M pc lc st := by
  obtain ⟨⟨p, l, e, R, s, m, args, below, meth, c⟩, nL, Q⟩ := f
  subst hq
  intro H locs ls hz hR hS hl
  exact lv_ldc2 hx.1 hx.2.1 hx.2.2.2.1 (hx.2.2.2.2.1 _ hw) hd (kk9 H locs ls hz hR hS hl)
theorem g_iload_n {f : zF} {E : zE} {Y : zY} {d : Nat} {kk : Nat × Nat} {Γ : zG} {n : Nat} {k : Nat × Nat} {M : zM} {pc q : Nat} {lc : List (Nat × Value)} {st : List Value} {j : Fin 4} {x : Int32} (hx : zOk f E Y d kk) (hd : decode Y.2.1 pc = .ok (.iload_n j, 1)) (hq : pc + 1 = q) (hg : zget lc (j : Nat) = some (.int x)) (kk9 : zGo f E Γ n k M q lc (.int x :: st)) : zGo f E Γ n k M pc lc st := by
  obtain ⟨⟨p, l, e, R, s, m, args, below, meth, c⟩, nL, Q⟩ := f
  subst hq
  intro H locs ls hz hR hS hl
  exact lv_iload_n hx.1 hx.2.1 hd rfl (z_at hl hg) (kk9 H locs ls hz hR hS hl)
theorem g_iload {f : zF} {E : zE} {Y : zY} {d : Nat} {kk : Nat × Nat} {Γ : zG} {n : Nat} {k : Nat × Nat} {M : zM} {pc q : Nat} {lc : List (Nat × Value)} {st : List Value} {j : Nat} {x : Int32} (hx : zOk f E Y d kk) (hd : decode Y.2.1 pc = .ok (.iload j, 2)) (hq : pc + 2 = q) (hg : zget lc j = some (.int x)) (kk9 : zGo f E Γ n k M q lc (.int x :: st)) : zGo f E Γ n k M pc lc st := by
  obtain ⟨⟨p, l, e, R, s, m, args, below, meth, c⟩, nL, Q⟩ := f
  subst hq
  intro H locs ls hz hR hS hl
  exact lv_iload hx.1 hx.2.1 hd (z_at hl hg) (kk9 H locs ls hz hR hS hl)
theorem g_lload_n {f : zF} {E : zE} {Y : zY} {d : Nat} {kk : Nat × Nat} {Γ : zG} {n : Nat} {k : Nat × Nat} {M : zM} {pc q : Nat} {lc : List (Nat × Value)} {st : List Value} {j : Fin 4} {x : Int64} (hx : zOk f E Y d kk) (hd : decode Y.2.1 pc = .ok (.lload_n j, 1)) (hq : pc + 1 = q) (hg : zget lc (j : Nat) = some (.long x)) (kk9 : zGo f E Γ n k M q lc (.long x :: st)) : zGo f E Γ n k M pc lc st := by
  obtain ⟨⟨p, l, e, R, s, m, args, below, meth, c⟩, nL, Q⟩ := f
  subst hq
  intro H locs ls hz hR hS hl
  exact lv_lload_n hx.1 hx.2.1 hd rfl (z_at hl hg) (kk9 H locs ls hz hR hS hl)
theorem g_lload {f : zF} {E : zE} {Y : zY} {d : Nat} {kk : Nat × Nat} {Γ : zG} {n : Nat} {k : Nat × Nat} {M : zM} {pc q : Nat} {lc : List (Nat × Value)} {st : List Value} {j : Nat} {x : Int64} (hx : zOk f E Y d kk) (hd : decode Y.2.1 pc = .ok (.lload j, 2)) (hq : pc + 2 = q) (hg : zget lc j = some (.long x)) (kk9 : zGo f E Γ n k M q lc (.long x :: st)) : zGo f E Γ n k M pc lc st := by
  obtain ⟨⟨p, l, e, R, s, m, args, below, meth, c⟩, nL, Q⟩ := f
  subst hq
  intro H locs ls hz hR hS hl
  exact lv_lload hx.1 hx.2.1 hd (z_at hl hg) (kk9 H locs ls hz hR hS hl)
theorem g_aload_n {f : zF} {E : zE} {Y : zY} {d : Nat} {kk : Nat × Nat} {Γ : zG} {n : Nat} {k : Nat × Nat} {M : zM} {pc q : Nat} {lc : List (Nat × Value)} {st : List Value} {j : Fin 4} {x : Nat} (hx : zOk f E Y d kk) (hd : decode Y.2.1 pc = .ok (.aload_n j, 1)) (hq : pc + 1 = q) (hg : zget lc (j : Nat) = some (.ref x)) (kk9 : zGo f E Γ n k M q lc (.ref x :: st)) : zGo f E Γ n k M pc lc st := by
  obtain ⟨⟨p, l, e, R, s, m, args, below, meth, c⟩, nL, Q⟩ := f
  subst hq
  intro H locs ls hz hR hS hl
  exact lv_aload_n hx.1 hx.2.1 hd rfl (z_at hl hg) (kk9 H locs ls hz hR hS hl)
theorem g_aload {f : zF} {E : zE} {Y : zY} {d : Nat} {kk : Nat × Nat} {Γ : zG} {n : Nat} {k : Nat × Nat} {M : zM} {pc q : Nat} {lc : List (Nat × Value)} {st : List Value} {j : Nat} {x : Nat} (hx : zOk f E Y d kk) (hd : decode Y.2.1 pc = .ok (.aload j, 2)) (hq : pc + 2 = q) (hg : zget lc j = some (.ref x)) (kk9 : zGo f E Γ n k M q lc (.ref x :: st)) : zGo f E Γ n k M pc lc st := by
  obtain ⟨⟨p, l, e, R, s, m, args, below, meth, c⟩, nL, Q⟩ := f
  subst hq
  intro H locs ls hz hR hS hl
  exact lv_aload hx.1 hx.2.1 hd (z_at hl hg) (kk9 H locs ls hz hR hS hl)
theorem g_istore_n {f : zF} {E : zE} {Y : zY} {d : Nat} {kk : Nat × Nat} {Γ : zG} {n : Nat} {k : Nat × Nat} {M : zM} {pc q : Nat} {lc : List (Nat × Value)} {st : List Value} {j : Fin 4} {x : Int32} {lc' : List (Nat × Value)} (hx : zOk f E Y d kk) (hd : decode Y.2.1 pc = .ok (.istore_n j, 1)) (hq : pc + 1 = q) (hj : (j : Nat) < Y.2.2.1) (hp : zput1 lc (j : Nat) (.int x) = lc') (kk9 : zGo f E Γ n k M q lc' st) : zGo f E Γ n k M pc lc (.int x :: st) := by
  obtain ⟨⟨p, l, e, R, s, m, args, below, meth, c⟩, nL, Q⟩ := f
  subst hq
  intro H locs ls hz hR hS hl
  exact lv_istore_n hx.1 hx.2.1 hd rfl hl (by have h9 := hx.2.2.2.2.2.2.2.2.2.1; dsimp only at h9 ⊢; omega) hp (fun ls' hl' => kk9 H locs ls' hz hR hS hl')
theorem g_istore {f : zF} {E : zE} {Y : zY} {d : Nat} {kk : Nat × Nat} {Γ : zG} {n : Nat} {k : Nat × Nat} {M : zM} {pc q : Nat} {lc : List (Nat × Value)} {st : List Value} {j : Nat} {x : Int32} {lc' : List (Nat × Value)} (hx : zOk f E Y d kk) (hd : decode Y.2.1 pc = .ok (.istore j, 2)) (hq : pc + 2 = q) (hj : j < Y.2.2.1) (hp : zput1 lc j (.int x) = lc') (kk9 : zGo f E Γ n k M q lc' st) : zGo f E Γ n k M pc lc (.int x :: st) := by
  obtain ⟨⟨p, l, e, R, s, m, args, below, meth, c⟩, nL, Q⟩ := f
  subst hq
  intro H locs ls hz hR hS hl
  exact lv_istore hx.1 hx.2.1 hd hl (by have h9 := hx.2.2.2.2.2.2.2.2.2.1; dsimp only at h9 ⊢; omega) hp (fun ls' hl' => kk9 H locs ls' hz hR hS hl')
theorem g_lstore_n {f : zF} {E : zE} {Y : zY} {d : Nat} {kk : Nat × Nat} {Γ : zG} {n : Nat} {k : Nat × Nat} {M : zM} {pc q : Nat} {lc : List (Nat × Value)} {st : List Value} {j : Fin 4} {x : Int64} {lc' : List (Nat × Value)} (hx : zOk f E Y d kk) (hd : decode Y.2.1 pc = .ok (.lstore_n j, 1)) (hq : pc + 1 = q) (hj : (j : Nat) + 1 < Y.2.2.1) (hp : zput2 lc (j : Nat) (.long x) = lc') (kk9 : zGo f E Γ n k M q lc' st) : zGo f E Γ n k M pc lc (.long x :: st) := by
  obtain ⟨⟨p, l, e, R, s, m, args, below, meth, c⟩, nL, Q⟩ := f
  subst hq
  intro H locs ls hz hR hS hl
  exact lv_lstore_n hx.1 hx.2.1 hd rfl hl (by have h9 := hx.2.2.2.2.2.2.2.2.2.1; dsimp only at h9 ⊢; omega) hp (fun ls' hl' => kk9 H locs ls' hz hR hS hl')
theorem g_lstore {f : zF} {E : zE} {Y : zY} {d : Nat} {kk : Nat × Nat} {Γ : zG} {n : Nat} {k : Nat × Nat} {M : zM} {pc q : Nat} {lc : List (Nat × Value)} {st : List Value} {j : Nat} {x : Int64} {lc' : List (Nat × Value)} (hx : zOk f E Y d kk) (hd : decode Y.2.1 pc = .ok (.lstore j, 2)) (hq : pc + 2 = q) (hj : j + 1 < Y.2.2.1) (hp : zput2 lc j (.long x) = lc') (kk9 : zGo f E Γ n k M q lc' st) : zGo f E Γ n k M pc lc (.long x :: st) := by
  obtain ⟨⟨p, l, e, R, s, m, args, below, meth, c⟩, nL, Q⟩ := f
  subst hq
  intro H locs ls hz hR hS hl
  exact lv_lstore hx.1 hx.2.1 hd hl (by have h9 := hx.2.2.2.2.2.2.2.2.2.1; dsimp only at h9 ⊢; omega) hp (fun ls' hl' => kk9 H locs ls' hz hR hS hl')
theorem g_astore_n {f : zF} {E : zE} {Y : zY} {d : Nat} {kk : Nat × Nat} {Γ : zG} {n : Nat} {k : Nat × Nat} {M : zM} {pc q : Nat} {lc : List (Nat × Value)} {st : List Value} {j : Fin 4} {x : Nat} {lc' : List (Nat × Value)} (hx : zOk f E Y d kk) (hd : decode Y.2.1 pc = .ok (.astore_n j, 1)) (hq : pc + 1 = q) (hj : (j : Nat) < Y.2.2.1) (hp : zput1 lc (j : Nat) (.ref x) = lc') (kk9 : zGo f E Γ n k M q lc' st) : zGo f E Γ n k M pc lc (.ref x :: st) := by
  obtain ⟨⟨p, l, e, R, s, m, args, below, meth, c⟩, nL, Q⟩ := f
  subst hq
  intro H locs ls hz hR hS hl
  exact lv_astore_n hx.1 hx.2.1 hd rfl hl (by have h9 := hx.2.2.2.2.2.2.2.2.2.1; dsimp only at h9 ⊢; omega) hp (fun ls' hl' => kk9 H locs ls' hz hR hS hl')
theorem g_astore {f : zF} {E : zE} {Y : zY} {d : Nat} {kk : Nat × Nat} {Γ : zG} {n : Nat} {k : Nat × Nat} {M : zM} {pc q : Nat} {lc : List (Nat × Value)} {st : List Value} {j : Nat} {x : Nat} {lc' : List (Nat × Value)} (hx : zOk f E Y d kk) (hd : decode Y.2.1 pc = .ok (.astore j, 2)) (hq : pc + 2 = q) (hj : j < Y.2.2.1) (hp : zput1 lc j (.ref x) = lc') (kk9 : zGo f E Γ n k M q lc' st) : zGo f E Γ n k M pc lc (.ref x :: st) := by
  obtain ⟨⟨p, l, e, R, s, m, args, below, meth, c⟩, nL, Q⟩ := f
  subst hq
  intro H locs ls hz hR hS hl
  exact lv_astore hx.1 hx.2.1 hd hl (by have h9 := hx.2.2.2.2.2.2.2.2.2.1; dsimp only at h9 ⊢; omega) hp (fun ls' hl' => kk9 H locs ls' hz hR hS hl')
theorem g_iinc {f : zF} {E : zE} {Y : zY} {d : Nat} {kk : Nat × Nat} {Γ : zG} {n : Nat} {k : Nat × Nat} {M : zM} {pc q : Nat} {lc : List (Nat × Value)} {st : List Value} {j : Nat} {z : Int} {x v : Int32} {lc' : List (Nat × Value)} (hx : zOk f E Y d kk) (hd : decode Y.2.1 pc = .ok (.iinc j z, 3)) (hq : pc + 3 = q) (hg : zget lc j = some (.int x)) (hv : x + Int32.ofInt z = v) (hj : j < Y.2.2.1) (hp : zput1 lc j (.int v) = lc') (kk9 : zGo f E Γ n k M q lc' st) : zGo f E Γ n k M pc lc st := by
  obtain ⟨⟨p, l, e, R, s, m, args, below, meth, c⟩, nL, Q⟩ := f
  subst hq
  intro H locs ls hz hR hS hl
  obtain ⟨k8, hk8⟩ := z_place hg
  exact lv_iinc hx.1 hx.2.1 hd hl hk8 hv (by have h9 := hx.2.2.2.2.2.2.2.2.2.1; dsimp only at h9 ⊢; omega) hp (fun ls' hl' => kk9 H locs ls' hz hR hS hl')
theorem g_dup {f : zF} {E : zE} {Y : zY} {d : Nat} {kk : Nat × Nat} {Γ : zG} {n : Nat} {k : Nat × Nat} {M : zM} {pc q : Nat} {lc : List (Nat × Value)} {st : List Value} {v : Value} (hx : zOk f E Y d kk) (hd : decode Y.2.1 pc = .ok (.dup, 1)) (hq : pc + 1 = q) (hv : v.category = 1) (kk9 : zGo f E Γ n k M q lc (v :: v :: st)) : zGo f E Γ n k M pc lc (v :: st) := by
  obtain ⟨⟨p, l, e, R, s, m, args, below, meth, c⟩, nL, Q⟩ := f
  subst hq
  intro H locs ls hz hR hS hl
  exact lv_dup hx.1 hx.2.1 hd hv (kk9 H locs ls hz hR hS hl)
theorem g_pop {f : zF} {E : zE} {Y : zY} {d : Nat} {kk : Nat × Nat} {Γ : zG} {n : Nat} {k : Nat × Nat} {M : zM} {pc q : Nat} {lc : List (Nat × Value)} {st : List Value} {v : Value} (hx : zOk f E Y d kk) (hd : decode Y.2.1 pc = .ok (.pop, 1)) (hq : pc + 1 = q) (hv : v.category = 1) (kk9 : zGo f E Γ n k M q lc st) : zGo f E Γ n k M pc lc (v :: st) := by
  obtain ⟨⟨p, l, e, R, s, m, args, below, meth, c⟩, nL, Q⟩ := f
  subst hq
  intro H locs ls hz hR hS hl
  exact lv_pop hx.1 hx.2.1 hd hv (kk9 H locs ls hz hR hS hl)
theorem g_pop2 {f : zF} {E : zE} {Y : zY} {d : Nat} {kk : Nat × Nat} {Γ : zG} {n : Nat} {k : Nat × Nat} {M : zM} {pc q : Nat} {lc : List (Nat × Value)} {st : List Value} {v : Value} (hx : zOk f E Y d kk) (hd : decode Y.2.1 pc = .ok (.pop2, 1)) (hq : pc + 1 = q) (hv : v.category = 2) (kk9 : zGo f E Γ n k M q lc st) : zGo f E Γ n k M pc lc (v :: st) := by
  obtain ⟨⟨p, l, e, R, s, m, args, below, meth, c⟩, nL, Q⟩ := f
  subst hq
  intro H locs ls hz hR hS hl
  exact lv_pop2_2 hx.1 hx.2.1 hd hv (kk9 H locs ls hz hR hS hl)
theorem g_dup_x1 {f : zF} {E : zE} {Y : zY} {d : Nat} {kk : Nat × Nat} {Γ : zG} {n : Nat} {k : Nat × Nat} {M : zM} {pc q : Nat} {lc : List (Nat × Value)} {st : List Value} {v w : Value} (hx : zOk f E Y d kk) (hd : decode Y.2.1 pc = .ok (.dup_x1, 1)) (hq : pc + 1 = q) (hv : v.category = 1) (hw : w.category = 1) (kk9 : zGo f E Γ n k M q lc (v :: w :: v :: st)) : zGo f E Γ n k M pc lc (v :: w :: st) := by
  obtain ⟨⟨p, l, e, R, s, m, args, below, meth, c⟩, nL, Q⟩ := f
  subst hq
  intro H locs ls hz hR hS hl
  exact lv_dup_x1 hx.1 hx.2.1 hd hv hw (kk9 H locs ls hz hR hS hl)
theorem g_dup_x2 {f : zF} {E : zE} {Y : zY} {d : Nat} {kk : Nat × Nat} {Γ : zG} {n : Nat} {k : Nat × Nat} {M : zM} {pc q : Nat} {lc : List (Nat × Value)} {st : List Value} {v w u : Value} (hx : zOk f E Y d kk) (hd : decode Y.2.1 pc = .ok (.dup_x2, 1)) (hq : pc + 1 = q) (hv : v.category = 1) (hw : w.category = 1) (hu : u.category = 1) (kk9 : zGo f E Γ n k M q lc (v :: w :: u :: v :: st)) : zGo f E Γ n k M pc lc (v :: w :: u :: st) := by
  obtain ⟨⟨p, l, e, R, s, m, args, below, meth, c⟩, nL, Q⟩ := f
  subst hq
  intro H locs ls hz hR hS hl
  exact lv_dup_x2 hx.1 hx.2.1 hd hv hw hu (kk9 H locs ls hz hR hS hl)
theorem g_dup2 {f : zF} {E : zE} {Y : zY} {d : Nat} {kk : Nat × Nat} {Γ : zG} {n : Nat} {k : Nat × Nat} {M : zM} {pc q : Nat} {lc : List (Nat × Value)} {st : List Value} {v w : Value} (hx : zOk f E Y d kk) (hd : decode Y.2.1 pc = .ok (.dup2, 1)) (hq : pc + 1 = q) (hv : v.category = 1) (hw : w.category = 1) (kk9 : zGo f E Γ n k M q lc (v :: w :: v :: w :: st)) : zGo f E Γ n k M pc lc (v :: w :: st) := by
  obtain ⟨⟨p, l, e, R, s, m, args, below, meth, c⟩, nL, Q⟩ := f
  subst hq
  intro H locs ls hz hR hS hl
  exact lv_dup2_11 hx.1 hx.2.1 hd hv hw (kk9 H locs ls hz hR hS hl)
theorem g_dup2_l {f : zF} {E : zE} {Y : zY} {d : Nat} {kk : Nat × Nat} {Γ : zG} {n : Nat} {k : Nat × Nat} {M : zM} {pc q : Nat} {lc : List (Nat × Value)} {st : List Value} {v : Value} (hx : zOk f E Y d kk) (hd : decode Y.2.1 pc = .ok (.dup2, 1)) (hq : pc + 1 = q) (hv : v.category = 2) (kk9 : zGo f E Γ n k M q lc (v :: v :: st)) : zGo f E Γ n k M pc lc (v :: st) := by
  obtain ⟨⟨p, l, e, R, s, m, args, below, meth, c⟩, nL, Q⟩ := f
  subst hq
  intro H locs ls hz hR hS hl
  exact lv_dup2_2 hx.1 hx.2.1 hd hv (kk9 H locs ls hz hR hS hl)
theorem g_dup2_x1 {f : zF} {E : zE} {Y : zY} {d : Nat} {kk : Nat × Nat} {Γ : zG} {n : Nat} {k : Nat × Nat} {M : zM} {pc q : Nat} {lc : List (Nat × Value)} {st : List Value} {v w : Value} (hx : zOk f E Y d kk) (hd : decode Y.2.1 pc = .ok (.dup2_x1, 1)) (hq : pc + 1 = q) (hv : v.category = 2) (hw : w.category = 1) (kk9 : zGo f E Γ n k M q lc (v :: w :: v :: st)) : zGo f E Γ n k M pc lc (v :: w :: st) := by
  obtain ⟨⟨p, l, e, R, s, m, args, below, meth, c⟩, nL, Q⟩ := f
  subst hq
  intro H locs ls hz hR hS hl
  exact lv_dup2_x1_2 hx.1 hx.2.1 hd hv hw (kk9 H locs ls hz hR hS hl)
-- branches
theorem g_if_eq {f : zF} {E : zE} {Y : zY} {d : Nat} {kk : Nat × Nat} {Γ : zG} {n : Nat} {k : Nat × Nat} {M : zM} {pc q : Nat} {lc : List (Nat × Value)} {st : List Value} {x : Int32} {off : Int} {t : Nat} {P : Prop} (hx : zOk f E Y d kk) (hd : decode Y.2.1 pc = .ok (.ifCond .eq off, 3)) (hq : pc + 3 = q) (ht : (pc : Int) + off = (t : Int)) (hP : (x = 0) ↔ P) (kt : P → zGo f E Γ n k M t lc st) (kf : ¬ P → zGo f E Γ n k M q lc st) : zGo f E Γ n k M pc lc (.int x :: st) := by
  obtain ⟨⟨p, l, e, R, s, m, args, below, meth, c⟩, nL, Q⟩ := f
  subst hq
  intro H locs ls hz hR hS hl
  exact lv_if_eq hx.1 hx.2.1 hd ht (fun h9 => kt (hP.mp h9) H locs ls hz hR hS hl) (fun h9 => kf (fun h8 => h9 (hP.mpr h8)) H locs ls hz hR hS hl)
theorem g_icmp_eq {f : zF} {E : zE} {Y : zY} {d : Nat} {kk : Nat × Nat} {Γ : zG} {n : Nat} {k : Nat × Nat} {M : zM} {pc q : Nat} {lc : List (Nat × Value)} {st : List Value} {x y : Int32} {off : Int} {t : Nat} {P : Prop} (hx : zOk f E Y d kk) (hd : decode Y.2.1 pc = .ok (.if_icmp .eq off, 3)) (hq : pc + 3 = q) (ht : (pc : Int) + off = (t : Int)) (hP : (x = y) ↔ P) (kt : P → zGo f E Γ n k M t lc st) (kf : ¬ P → zGo f E Γ n k M q lc st) : zGo f E Γ n k M pc lc (.int y :: .int x :: st) := by
  obtain ⟨⟨p, l, e, R, s, m, args, below, meth, c⟩, nL, Q⟩ := f
  subst hq
  intro H locs ls hz hR hS hl
  exact lv_icmp_eq hx.1 hx.2.1 hd ht (fun h9 => kt (hP.mp h9) H locs ls hz hR hS hl) (fun h9 => kf (fun h8 => h9 (hP.mpr h8)) H locs ls hz hR hS hl)
theorem g_if_ne {f : zF} {E : zE} {Y : zY} {d : Nat} {kk : Nat × Nat} {Γ : zG} {n : Nat} {k : Nat × Nat} {M : zM} {pc q : Nat} {lc : List (Nat × Value)} {st : List Value} {x : Int32} {off : Int} {t : Nat} {P : Prop} (hx : zOk f E Y d kk) (hd : decode Y.2.1 pc = .ok (.ifCond .ne off, 3)) (hq : pc + 3 = q) (ht : (pc : Int) + off = (t : Int)) (hP : (¬ x = 0) ↔ P) (kt : P → zGo f E Γ n k M t lc st) (kf : ¬ P → zGo f E Γ n k M q lc st) : zGo f E Γ n k M pc lc (.int x :: st) := by
  obtain ⟨⟨p, l, e, R, s, m, args, below, meth, c⟩, nL, Q⟩ := f
  subst hq
  intro H locs ls hz hR hS hl
  exact lv_if_ne hx.1 hx.2.1 hd ht (fun h9 => kt (hP.mp h9) H locs ls hz hR hS hl) (fun h9 => kf (fun h8 => (hP.mpr h8) h9) H locs ls hz hR hS hl)
theorem g_icmp_ne {f : zF} {E : zE} {Y : zY} {d : Nat} {kk : Nat × Nat} {Γ : zG} {n : Nat} {k : Nat × Nat} {M : zM} {pc q : Nat} {lc : List (Nat × Value)} {st : List Value} {x y : Int32} {off : Int} {t : Nat} {P : Prop} (hx : zOk f E Y d kk) (hd : decode Y.2.1 pc = .ok (.if_icmp .ne off, 3)) (hq : pc + 3 = q) (ht : (pc : Int) + off = (t : Int)) (hP : (¬ x = y) ↔ P) (kt : P → zGo f E Γ n k M t lc st) (kf : ¬ P → zGo f E Γ n k M q lc st) : zGo f E Γ n k M pc lc (.int y :: .int x :: st) := by
  obtain ⟨⟨p, l, e, R, s, m, args, below, meth, c⟩, nL, Q⟩ := f
  subst hq
  intro H locs ls hz hR hS hl
  exact lv_icmp_ne hx.1 hx.2.1 hd ht (fun h9 => kt (hP.mp h9) H locs ls hz hR hS hl) (fun h9 => kf (fun h8 => (hP.mpr h8) h9) H locs ls hz hR hS hl)
theorem g_if_lt {f : zF} {E : zE} {Y : zY} {d : Nat} {kk : Nat × Nat} {Γ : zG} {n : Nat} {k : Nat × Nat} {M : zM} {pc q : Nat} {lc : List (Nat × Value)} {st : List Value} {x : Int32} {off : Int} {t : Nat} {P : Prop} (hx : zOk f E Y d kk) (hd : decode Y.2.1 pc = .ok (.ifCond .lt off, 3)) (hq : pc + 3 = q) (ht : (pc : Int) + off = (t : Int)) (hP : (x < 0) ↔ P) (kt : P → zGo f E Γ n k M t lc st) (kf : ¬ P → zGo f E Γ n k M q lc st) : zGo f E Γ n k M pc lc (.int x :: st) := by
  obtain ⟨⟨p, l, e, R, s, m, args, below, meth, c⟩, nL, Q⟩ := f
  subst hq
  intro H locs ls hz hR hS hl
  exact lv_if_lt hx.1 hx.2.1 hd ht (fun h9 => kt (hP.mp h9) H locs ls hz hR hS hl) (fun h9 => kf (fun h8 => h9 (hP.mpr h8)) H locs ls hz hR hS hl)
theorem g_icmp_lt {f : zF} {E : zE} {Y : zY} {d : Nat} {kk : Nat × Nat} {Γ : zG} {n : Nat} {k : Nat × Nat} {M : zM} {pc q : Nat} {lc : List (Nat × Value)} {st : List Value} {x y : Int32} {off : Int} {t : Nat} {P : Prop} (hx : zOk f E Y d kk) (hd : decode Y.2.1 pc = .ok (.if_icmp .lt off, 3)) (hq : pc + 3 = q) (ht : (pc : Int) + off = (t : Int)) (hP : (x < y) ↔ P) (kt : P → zGo f E Γ n k M t lc st) (kf : ¬ P → zGo f E Γ n k M q lc st) : zGo f E Γ n k M pc lc (.int y :: .int x :: st) := by
  obtain ⟨⟨p, l, e, R, s, m, args, below, meth, c⟩, nL, Q⟩ := f
  subst hq
  intro H locs ls hz hR hS hl
  exact lv_icmp_lt hx.1 hx.2.1 hd ht (fun h9 => kt (hP.mp h9) H locs ls hz hR hS hl) (fun h9 => kf (fun h8 => h9 (hP.mpr h8)) H locs ls hz hR hS hl)
theorem g_if_ge {f : zF} {E : zE} {Y : zY} {d : Nat} {kk : Nat × Nat} {Γ : zG} {n : Nat} {k : Nat × Nat} {M : zM} {pc q : Nat} {lc : List (Nat × Value)} {st : List Value} {x : Int32} {off : Int} {t : Nat} {P : Prop} (hx : zOk f E Y d kk) (hd : decode Y.2.1 pc = .ok (.ifCond .ge off, 3)) (hq : pc + 3 = q) (ht : (pc : Int) + off = (t : Int)) (hP : (0 ≤ x) ↔ P) (kt : P → zGo f E Γ n k M t lc st) (kf : ¬ P → zGo f E Γ n k M q lc st) : zGo f E Γ n k M pc lc (.int x :: st) := by
  obtain ⟨⟨p, l, e, R, s, m, args, below, meth, c⟩, nL, Q⟩ := f
  subst hq
  intro H locs ls hz hR hS hl
  exact lv_if_ge hx.1 hx.2.1 hd ht (fun h9 => kt (hP.mp h9) H locs ls hz hR hS hl) (fun h9 => kf (fun h8 => h9 (hP.mpr h8)) H locs ls hz hR hS hl)
theorem g_icmp_ge {f : zF} {E : zE} {Y : zY} {d : Nat} {kk : Nat × Nat} {Γ : zG} {n : Nat} {k : Nat × Nat} {M : zM} {pc q : Nat} {lc : List (Nat × Value)} {st : List Value} {x y : Int32} {off : Int} {t : Nat} {P : Prop} (hx : zOk f E Y d kk) (hd : decode Y.2.1 pc = .ok (.if_icmp .ge off, 3)) (hq : pc + 3 = q) (ht : (pc : Int) + off = (t : Int)) (hP : (y ≤ x) ↔ P) (kt : P → zGo f E Γ n k M t lc st) (kf : ¬ P → zGo f E Γ n k M q lc st) : zGo f E Γ n k M pc lc (.int y :: .int x :: st) := by
  obtain ⟨⟨p, l, e, R, s, m, args, below, meth, c⟩, nL, Q⟩ := f
  subst hq
  intro H locs ls hz hR hS hl
  exact lv_icmp_ge hx.1 hx.2.1 hd ht (fun h9 => kt (hP.mp h9) H locs ls hz hR hS hl) (fun h9 => kf (fun h8 => h9 (hP.mpr h8)) H locs ls hz hR hS hl)
theorem g_if_gt {f : zF} {E : zE} {Y : zY} {d : Nat} {kk : Nat × Nat} {Γ : zG} {n : Nat} {k : Nat × Nat} {M : zM} {pc q : Nat} {lc : List (Nat × Value)} {st : List Value} {x : Int32} {off : Int} {t : Nat} {P : Prop} (hx : zOk f E Y d kk) (hd : decode Y.2.1 pc = .ok (.ifCond .gt off, 3)) (hq : pc + 3 = q) (ht : (pc : Int) + off = (t : Int)) (hP : (0 < x) ↔ P) (kt : P → zGo f E Γ n k M t lc st) (kf : ¬ P → zGo f E Γ n k M q lc st) : zGo f E Γ n k M pc lc (.int x :: st) := by
  obtain ⟨⟨p, l, e, R, s, m, args, below, meth, c⟩, nL, Q⟩ := f
  subst hq
  intro H locs ls hz hR hS hl
  exact lv_if_gt hx.1 hx.2.1 hd ht (fun h9 => kt (hP.mp h9) H locs ls hz hR hS hl) (fun h9 => kf (fun h8 => h9 (hP.mpr h8)) H locs ls hz hR hS hl)
theorem g_icmp_gt {f : zF} {E : zE} {Y : zY} {d : Nat} {kk : Nat × Nat} {Γ : zG} {n : Nat} {k : Nat × Nat} {M : zM} {pc q : Nat} {lc : List (Nat × Value)} {st : List Value} {x y : Int32} {off : Int} {t : Nat} {P : Prop} (hx : zOk f E Y d kk) (hd : decode Y.2.1 pc = .ok (.if_icmp .gt off, 3)) (hq : pc + 3 = q) (ht : (pc : Int) + off = (t : Int)) (hP : (y < x) ↔ P) (kt : P → zGo f E Γ n k M t lc st) (kf : ¬ P → zGo f E Γ n k M q lc st) : zGo f E Γ n k M pc lc (.int y :: .int x :: st) := by
  obtain ⟨⟨p, l, e, R, s, m, args, below, meth, c⟩, nL, Q⟩ := f
  subst hq
  intro H locs ls hz hR hS hl
  exact lv_icmp_gt hx.1 hx.2.1 hd ht (fun h9 => kt (hP.mp h9) H locs ls hz hR hS hl) (fun h9 => kf (fun h8 => h9 (hP.mpr h8)) H locs ls hz hR hS hl)
theorem g_if_le {f : zF} {E : zE} {Y : zY} {d : Nat} {kk : Nat × Nat} {Γ : zG} {n : Nat} {k : Nat × Nat} {M : zM} {pc q : Nat} {lc : List (Nat × Value)} {st : List Value} {x : Int32} {off : Int} {t : Nat} {P : Prop} (hx : zOk f E Y d kk) (hd : decode Y.2.1 pc = .ok (.ifCond .le off, 3)) (hq : pc + 3 = q) (ht : (pc : Int) + off = (t : Int)) (hP : (x ≤ 0) ↔ P) (kt : P → zGo f E Γ n k M t lc st) (kf : ¬ P → zGo f E Γ n k M q lc st) : zGo f E Γ n k M pc lc (.int x :: st) := by
  obtain ⟨⟨p, l, e, R, s, m, args, below, meth, c⟩, nL, Q⟩ := f
  subst hq
  intro H locs ls hz hR hS hl
  exact lv_if_le hx.1 hx.2.1 hd ht (fun h9 => kt (hP.mp h9) H locs ls hz hR hS hl) (fun h9 => kf (fun h8 => h9 (hP.mpr h8)) H locs ls hz hR hS hl)
theorem g_icmp_le {f : zF} {E : zE} {Y : zY} {d : Nat} {kk : Nat × Nat} {Γ : zG} {n : Nat} {k : Nat × Nat} {M : zM} {pc q : Nat} {lc : List (Nat × Value)} {st : List Value} {x y : Int32} {off : Int} {t : Nat} {P : Prop} (hx : zOk f E Y d kk) (hd : decode Y.2.1 pc = .ok (.if_icmp .le off, 3)) (hq : pc + 3 = q) (ht : (pc : Int) + off = (t : Int)) (hP : (x ≤ y) ↔ P) (kt : P → zGo f E Γ n k M t lc st) (kf : ¬ P → zGo f E Γ n k M q lc st) : zGo f E Γ n k M pc lc (.int y :: .int x :: st) := by
  obtain ⟨⟨p, l, e, R, s, m, args, below, meth, c⟩, nL, Q⟩ := f
  subst hq
  intro H locs ls hz hR hS hl
  exact lv_icmp_le hx.1 hx.2.1 hd ht (fun h9 => kt (hP.mp h9) H locs ls hz hR hS hl) (fun h9 => kf (fun h8 => h9 (hP.mpr h8)) H locs ls hz hR hS hl)
theorem g_goto {f : zF} {E : zE} {Y : zY} {d : Nat} {kk : Nat × Nat} {Γ : zG} {n : Nat} {k : Nat × Nat} {M : zM} {pc q : Nat} {lc : List (Nat × Value)} {st : List Value} {off : Int} (hx : zOk f E Y d kk) (hd : decode Y.2.1 pc = .ok (.goto off, 3)) (hq : (pc : Int) + off = (q : Int)) (kk9 : zGo f E Γ n k M q lc st) : zGo f E Γ n k M pc lc st := by
  obtain ⟨⟨p, l, e, R, s, m, args, below, meth, c⟩, nL, Q⟩ := f
  intro H locs ls hz hR hS hl
  exact lv_goto hx.1 hx.2.1 hd hq (kk9 H locs ls hz hR hS hl)
/-! rows that touch the memory -/
/-- the field that entry i of the class own's pool names: field j of class c, of type ty -/
def zFl (own : String) (i c j : Nat) (ty : FieldType) : Prop := ∃ (ref : String) (r : vw_C), zCl[c]? = some r ∧ j < r.2.2 ∧ zTy c j = ty ∧
  (Cond.fieldLink own i ref (r.2.1 j).2.1 (r.2.1 j).2.2.1 ∈ zWs ∨ ∃ host : String, Cond.fieldLinkNest own i ref (r.2.1 j).2.1 (r.2.1 j).2.2.1 host ∈ zNs) ∧
  (ref = (r.2.1 j).1 ∨ Cond.sameField ref (r.2.1 j).1 (r.2.1 j).2.1 (r.2.1 j).2.2.1 ∈ zWs)
def zNF (c j : Nat) : Prop := ∀ r : vw_C, zCl[c]? = some r → (r.2.1 j).2.2.2 = false
def zFi (own : String) (c j : Nat) : Prop := ∀ r : vw_C, zCl[c]? = some r → (r.2.1 j).2.2.2 = true ∧ (r.2.1 j).1 = own
theorem zV_upi {T : Nat → FieldType} {x : zc} {j : Nat} {v : Int32} (h : ∀ (y : zc) (k : Nat), zV (T j) y k = .int (y.1 k)) (j' : Nat) : updV (fun k => zV (T k) x k) j (.int v) j' = zV (T j') (va_up x.1 j v, x.2) j' := by
  by_cases e : j' = j
  · subst e
    rw [h]
    simp [updV, va_up]
  · simp only [updV, if_neg e]
    cases T j' <;> simp [zV, va_up, e]
theorem zV_upl {T : Nat → FieldType} {x : zc} {j : Nat} {v : Int64} (h : ∀ (y : zc) (k : Nat), zV (T j) y k = .long (y.2.1 k)) (j' : Nat) : updV (fun k => zV (T k) x k) j (.long v) j' = zV (T j') (x.1, va_up x.2.1 j v, x.2.2) j' := by
  by_cases e : j' = j
  · subst e
    rw [h]
    simp [updV, va_up]
  · simp only [updV, if_neg e]
    cases T j' <;> simp [zV, va_up, e]
theorem zV_upr {T : Nat → FieldType} {x : zc} {j v : Nat} (h : ∀ (y : zc) (k : Nat), zV (T j) y k = va_rf (zo (y.2.2 k))) (hv : v ≠ 0) (j' : Nat) : updV (fun k => zV (T k) x k) j (.ref v) j' = zV (T j') (x.1, x.2.1, va_up x.2.2 j v) j' := by
  by_cases e : j' = j
  · subst e
    rw [h]
    simp [updV, va_up, zo, hv, va_rf]
  · simp only [updV, if_neg e]
    cases T j' <;> simp [zV, va_up, e]
section ZB
variable {f : zF} {E : zE} {Y : zY} {d : Nat} {kk : Nat × Nat} {Γ : zG} {n : Nat} {k : Nat × Nat} {M : zM} {pc q : Nat} {lc : List (Nat × Value)} {st : List Value}
theorem g_get {i c j a : Nat} {ty : FieldType} {v : Value} (hx : zOk f E Y d kk) (hd : decode Y.2.1 pc = .ok (.getfield i, 3)) (hq : pc + 3 = q) (hf : zFl Y.1.cls i c j ty) (hg : Γ a = some (0, c)) (hv : zV ty (zcl M a) j = v)
    (kk9 : zGo f E Γ n k M q lc (v :: st)) : zGo f E Γ n k M pc lc (.ref a :: st) := by
  obtain ⟨⟨p, l, e, R, s, m, args, below, meth, c0⟩, nL, Q⟩ := f
  subst hq
  intro H locs ls hz hR hS hl
  have K := kk9 H locs ls hz hR hS hl
  obtain ⟨ref, r, hc, hk, hty, hlink, hsame⟩ := hf
  obtain ⟨⟨r', hr', cell, q1, q2, q3, q4⟩, -⟩ := hR a _ hg
  have hrr : r' = r := Option.some.inj (hr'.symm.trans hc)
  subst hrr
  obtain ⟨hexec, hb, -, hown, hts, hK, -⟩ := hx
  obtain ⟨hSl, hfc, kC, hkC, hkind⟩ := hK.1.1 c _ hc
  obtain ⟨cf, kf, fi, fd, hi, hsl⟩ := hSl j hk
  have hi' : s.fieldFound? ref (r'.2.1 j).2.1 (r'.2.1 j).2.2.1 = some (cf, kf, fi, fd) := by
    rcases hsame with h | h
    · rw [h]; exact hi
    · exact u_same (hts _ h) _ hi
  have hst := (u_facts hfc hkC (u_lays hts (zCl_ws hc) hk) hi).1
  have hsv : cell.slots[fd.slot]? = some v := by
    rw [hsl, q4 j hk]
    show some (zV (zTy c j) (zcl M a) j) = some v
    rw [hty, hv]
  have hkn : cell.vm ≠ .unknown := by rw [q3]; exact fun h => by cases h
  rcases hlink with h | ⟨host, h⟩
  · exact W.getf hexec hb hown (hts _ h) hi' hst q1 hkn hsv rfl rfl hd K
  · exact va_Wgetf hexec hb hown (va_Nw.use rfl (hK.2.1 _ h)) hi' hst q1 hkn hsv rfl rfl hd K
theorem g_geti {i c j a : Nat} {x : Int32} (hx : zOk f E Y d kk) (hd : decode Y.2.1 pc = .ok (.getfield i, 3)) (hq : pc + 3 = q) (hf : zFl Y.1.cls i c j .int) (hg : Γ a = some (0, c)) (hv : zi M a j = x)
    (kk9 : zGo f E Γ n k M q lc (.int x :: st)) : zGo f E Γ n k M pc lc (.ref a :: st) := g_get hx hd hq hf hg (by rw [← hv]; rfl) kk9
theorem g_getz {i c j a : Nat} {x : Int32} (hx : zOk f E Y d kk) (hd : decode Y.2.1 pc = .ok (.getfield i, 3)) (hq : pc + 3 = q) (hf : zFl Y.1.cls i c j .boolean) (hg : Γ a = some (0, c)) (hv : zi M a j = x)
    (kk9 : zGo f E Γ n k M q lc (.int x :: st)) : zGo f E Γ n k M pc lc (.ref a :: st) := g_get hx hd hq hf hg (by rw [← hv]; rfl) kk9
theorem g_getl {i c j a : Nat} {x : Int64} (hx : zOk f E Y d kk) (hd : decode Y.2.1 pc = .ok (.getfield i, 3)) (hq : pc + 3 = q) (hf : zFl Y.1.cls i c j .long) (hg : Γ a = some (0, c)) (hv : zl M a j = x)
    (kk9 : zGo f E Γ n k M q lc (.long x :: st)) : zGo f E Γ n k M pc lc (.ref a :: st) := g_get hx hd hq hf hg (by rw [← hv]; rfl) kk9
theorem g_geto {i c j a b : Nat} {nm : String} (hx : zOk f E Y d kk) (hd : decode Y.2.1 pc = .ok (.getfield i, 3)) (hq : pc + 3 = q) (hf : zFl Y.1.cls i c j (.object nm)) (hg : Γ a = some (0, c)) (hv : zr M a j = b) (hb : b ≠ 0)
    (kk9 : zGo f E Γ n k M q lc (.ref b :: st)) : zGo f E Γ n k M pc lc (.ref a :: st) := g_get hx hd hq hf hg (by show va_rf (zo (zr M a j)) = _; rw [hv, zo_pos hb]; rfl) kk9
theorem g_geta {i c j a b : Nat} {t : FieldType} (hx : zOk f E Y d kk) (hd : decode Y.2.1 pc = .ok (.getfield i, 3)) (hq : pc + 3 = q) (hf : zFl Y.1.cls i c j (.array t)) (hg : Γ a = some (0, c)) (hv : zr M a j = b) (hb : b ≠ 0)
    (kk9 : zGo f E Γ n k M q lc (.ref b :: st)) : zGo f E Γ n k M pc lc (.ref a :: st) := g_get hx hd hq hf hg (by show va_rf (zo (zr M a j)) = _; rw [hv, zo_pos hb]; rfl) kk9
theorem z_own {E : zE} {Γ : zG} {M : zM} {H : Heap} (hR : zR E Γ M H) {a : Nat} {sh : Nat × Nat} (h : Γ a = some sh) : zA E a := (hR a sh h).2
theorem g_put {i c j a : Nat} {ty : FieldType} {v : Value} {M' : zM} (hx : zOk f E Y d kk) (hd : decode Y.2.1 pc = .ok (.putfield i, 3)) (hq : pc + 3 = q) (hf : zFl Y.1.cls i c j ty) (hnf : zNF c j) (hg : Γ a = some (0, c)) (hn : narrow ty v = v) (hfit : fits ty v = true)
    (hm : ∀ b, b ≠ a → zcl M' b = zcl M b) (hup : ∀ j', updV (fun k => zV (zTy c k) (zcl M a) k) j v j' = zV (zTy c j') (zcl M' a) j') (kk9 : zGo f E Γ n k M' q lc st) : zGo f E Γ n k M pc lc (v :: .ref a :: st) := by
  obtain ⟨⟨p, l, e, R, s, m, args, below, meth, c0⟩, nL, Q⟩ := f
  subst hq
  intro H locs ls hz hR hS hl
  have hao := z_own hR hg
  obtain ⟨ref, r, hc, hk, hty, hlink, hsame⟩ := hf
  obtain ⟨⟨r', hr', cell, q1, q2, q3, q4⟩, -⟩ := hR a _ hg
  have hrr : r' = r := Option.some.inj (hr'.symm.trans hc)
  subst hrr
  obtain ⟨hexec, hb, -, hown, hts, hK, -⟩ := hx
  obtain ⟨hSl, hfc, kC, hkC, hkind⟩ := hK.1.1 c _ hc
  obtain ⟨cf, kf, fi, fd, hi, hsl⟩ := hSl j hk
  have hi' : s.fieldFound? ref (r'.2.1 j).2.1 (r'.2.1 j).2.2.1 = some (cf, kf, fi, fd) := by
    rcases hsame with h | h
    · rw [h]; exact hi
    · exact u_same (hts _ h) _ hi
  have hst := (u_facts hfc hkC (u_lays hts (zCl_ws hc) hk) hi).1
  have hlay := hts _ (zCl_ws hc _ (u_in_lay hk))
  unfold u_lay at hlay
  rw [if_neg (by rw [hnf _ hc]; decide)] at hlay
  have hdt : parseFieldDescriptor (r'.2.1 j).2.2.1 = some ty := by rw [← hty]; exact zCl_ty hc j hk
  have h6 := u_store hfc hkC hkind hlay hi hdt hn hfit
  have hap := va_apart (own := Y.1.cls) (D := E.1) hts (zCl_ws hc) (zTy c) (zCl_ty hc) (zCl_nm hc) hK.1 hc
  have fin : ∀ H' : Heap, H'[a]? = some (cell.setSlot fd.slot v) → H'.size = H.size → (∀ q, q ≠ a → H'[q]? = H[q]?) → W p l e R s m args below meth c0 H' (locs ++ [⟨a, fd.slot⟩]) k.1 k.2 Q (F0 m (pc + 3) ls st) := by
    intro H' e1 e2 e3
    refine kk9 H' _ ls (e2.trans hz) (hR.put hg hm ?_ e3) (hS.put e2 e3 hao) hl
    refine ⟨r', hc, _, e1, q2, q3, fun j' hj' => ?_⟩
    rw [hsl, t_set q4 hap hk v j' hj', hup]
  rcases hlink with h | ⟨host, h⟩
  · exact W.putK hexec hb (f := fd) ⟨hown, hts _ h, ⟨_, _, _, hi'⟩, hst⟩ (by rw [q2]; exact h6) q1 q3 (by rw [hsl]; exact k2_hasslot (q4 j hk)) rfl rfl hd fin
  · exact va_WputK hexec hb (f := fd) hown (va_Nw.use rfl (hK.2.1 _ h)) hi' hst (by rw [q2]; exact h6) q1 q3 (by rw [hsl]; exact k2_hasslot (q4 j hk)) rfl rfl hd fin
theorem g_puti {i c j a : Nat} {x : Int32} (hx : zOk f E Y d kk) (hd : decode Y.2.1 pc = .ok (.putfield i, 3)) (hq : pc + 3 = q) (hf : zFl Y.1.cls i c j .int) (hnf : zNF c j) (hg : Γ a = some (0, c))
    (kk9 : zGo f E Γ n k (zsi M a j x) q lc st) : zGo f E Γ n k M pc lc (.int x :: .ref a :: st) := by
  have hty : zTy c j = .int := by obtain ⟨_, _, _, _, h, _⟩ := hf; exact h
  exact g_put hx hd hq hf hnf hg rfl rfl (zcl_si_n _ _ _ _) (fun j' => by rw [zcl_si]; exact zV_upi (T := zTy c) (x := zcl M a) (fun y k => by rw [hty]; rfl) j') kk9
theorem g_putz {i c j a : Nat} {x : Int32} (hx : zOk f E Y d kk) (hd : decode Y.2.1 pc = .ok (.putfield i, 3)) (hq : pc + 3 = q) (hf : zFl Y.1.cls i c j .boolean) (hnf : zNF c j) (hg : Γ a = some (0, c)) (hb : x = 0 ∨ x = 1)
    (kk9 : zGo f E Γ n k (zsi M a j x) q lc st) : zGo f E Γ n k M pc lc (.int x :: .ref a :: st) := by
  have hty : zTy c j = .boolean := by obtain ⟨_, _, _, _, h, _⟩ := hf; exact h
  exact g_put hx hd hq hf hnf hg (by rcases hb with rfl | rfl <;> decide) (by rcases hb with rfl | rfl <;> decide) (zcl_si_n _ _ _ _) (fun j' => by rw [zcl_si]; exact zV_upi (T := zTy c) (x := zcl M a) (fun y k => by rw [hty]; rfl) j') kk9
theorem g_putl {i c j a : Nat} {x : Int64} (hx : zOk f E Y d kk) (hd : decode Y.2.1 pc = .ok (.putfield i, 3)) (hq : pc + 3 = q) (hf : zFl Y.1.cls i c j .long) (hnf : zNF c j) (hg : Γ a = some (0, c))
    (kk9 : zGo f E Γ n k (zsl M a j x) q lc st) : zGo f E Γ n k M pc lc (.long x :: .ref a :: st) := by
  have hty : zTy c j = .long := by obtain ⟨_, _, _, _, h, _⟩ := hf; exact h
  exact g_put hx hd hq hf hnf hg rfl rfl (zcl_sl_n _ _ _ _) (fun j' => by rw [zcl_sl]; exact zV_upl (T := zTy c) (x := zcl M a) (fun y k => by rw [hty]; rfl) j') kk9
theorem g_puto {i c j a b : Nat} {nm : String} (hx : zOk f E Y d kk) (hd : decode Y.2.1 pc = .ok (.putfield i, 3)) (hq : pc + 3 = q) (hf : zFl Y.1.cls i c j (.object nm)) (hnf : zNF c j) (hg : Γ a = some (0, c)) (hb : b ≠ 0)
    (kk9 : zGo f E Γ n k (zsr M a j b) q lc st) : zGo f E Γ n k M pc lc (.ref b :: .ref a :: st) := by
  have hty : zTy c j = .object nm := by obtain ⟨_, _, _, _, h, _⟩ := hf; exact h
  exact g_put hx hd hq hf hnf hg rfl rfl (zcl_sr_n _ _ _ _) (fun j' => by rw [zcl_sr]; exact zV_upr (T := zTy c) (x := zcl M a) (fun y k => by rw [hty]; rfl) hb j') kk9
theorem g_putF {i c j a : Nat} {ty : FieldType} {v : Value} {M' : zM} (hx : zOk f E Y d kk) (hd : decode Y.2.1 pc = .ok (.putfield i, 3)) (hq : pc + 3 = q) (hf : zFl Y.1.cls i c j ty) (hfi : zFi Y.1.cls c j) (hin : Y.1.name = "<init>") (hg : Γ a = some (0, c)) (hn : narrow ty v = v) (hfit : fits ty v = true)
    (hpl : ∀ (ref : String) (r : vw_C), zCl[c]? = some r → ∀ host : String, Cond.fieldLinkNest Y.1.cls i ref (r.2.1 j).2.1 (r.2.1 j).2.2.1 host ∈ zNs → False)
    (hm : ∀ b, b ≠ a → zcl M' b = zcl M b) (hup : ∀ j', updV (fun k => zV (zTy c k) (zcl M a) k) j v j' = zV (zTy c j') (zcl M' a) j') (kk9 : zGo f E Γ n k M' q lc st) : zGo f E Γ n k M pc lc (v :: .ref a :: st) := by
  obtain ⟨⟨p, l, e, R, s, m, args, below, meth, c0⟩, nL, Q⟩ := f
  subst hq
  intro H locs ls hz hR hS hl
  have hao := z_own hR hg
  obtain ⟨ref, r, hc, hk, hty, hlink, hsame⟩ := hf
  obtain ⟨⟨r', hr', cell, q1, q2, q3, q4⟩, -⟩ := hR a _ hg
  have hrr : r' = r := Option.some.inj (hr'.symm.trans hc)
  subst hrr
  obtain ⟨hexec, hb, -, hown, hts, hK, -, -, -, -, hname, -⟩ := hx
  obtain ⟨hSl, hfc, kC, hkC, hkind⟩ := hK.1.1 c _ hc
  obtain ⟨cf, kf, fi, fd, hi, hsl⟩ := hSl j hk
  have hi' : s.fieldFound? ref (r'.2.1 j).2.1 (r'.2.1 j).2.2.1 = some (cf, kf, fi, fd) := by
    rcases hsame with h | h
    · rw [h]; exact hi
    · exact u_same (hts _ h) _ hi
  have hst := (u_facts hfc hkC (u_lays hts (zCl_ws hc) hk) hi).1
  have hlay := hts _ (zCl_ws hc _ (u_in_lay hk))
  unfold u_lay at hlay
  rw [if_pos (hfi _ hc).1] at hlay
  have hcf : m.cls = cf := by
    obtain ⟨_, _, c', _, _, _, -, -, hf', -, -, -, hown2, -⟩ := Cond.laysFinal_spec hlay
    have e1 : c' = cf := by have := hi.symm.trans hf'; simp at this; exact this.1.symm
    rw [(hfi _ hc).2] at hown2
    rw [← e1]; exact Option.some.inj (hown.symm.trans hown2)
  have hdt : parseFieldDescriptor (r'.2.1 j).2.2.1 = some ty := by rw [← hty]; exact zCl_ty hc j hk
  have h6 := u_fits hfc hkC hkind (Or.inr hlay) hi hdt hn hfit
  have hap := va_apart (own := Y.1.cls) (D := E.1) hts (zCl_ws hc) (zTy c) (zCl_ty hc) (zCl_nm hc) hK.1 hc
  rcases hlink with h | ⟨host, h⟩
  · refine W.putFinK hexec hb hown (hts _ h) hi' hst hcf (hname hin) (by rw [q2]; exact h6) q1 q3 (by rw [hsl]; exact k2_hasslot (q4 j hk)) rfl rfl hd fun H' e1 e2 e3 => ?_
    refine kk9 H' _ ls (e2.trans hz) (hR.put hg hm ?_ e3) (hS.put e2 e3 hao) hl
    refine ⟨r', hc, _, e1, q2, q3, fun j' hj' => ?_⟩
    rw [hsl, t_set q4 hap hk v j' hj', hup]
  · exact (hpl _ _ hc _ h).elim
theorem g_alen {a t N : Nat} (hx : zOk f E Y d kk) (hd : decode Y.2.1 pc = .ok (.arraylength, 1)) (hq : pc + 1 = q) (hg : Γ a = some (t + 1, N))
    (kk9 : zGo f E Γ n k M q lc (.int (nI N) :: st)) : zGo f E Γ n k M pc lc (.ref a :: st) := by
  obtain ⟨⟨p, l, e, R, s, m, args, below, meth, c0⟩, nL, Q⟩ := f
  subst hq
  intro H locs ls hz hR hS hl
  have K := kk9 H locs ls hz hR hS hl
  obtain ⟨h1, -⟩ := hR a _ hg
  obtain ⟨hexec, hb, -, hown, hts, hK, -⟩ := hx
  match t, h1 with
  | 0, h1 => exact W.alen (n := nI N) hexec hb h1 ((hK.1.2 0 _ rfl).1 N _) (by rw [arrV_size] <;> rfl) rfl rfl hd K
  | 1, h1 => exact W.alen (n := nI N) hexec hb h1 ((hK.1.2 1 _ rfl).1 N _) (by rw [arrV_size] <;> rfl) rfl rfl hd K
  | t + 2, h1 => exact W.alen (n := nI N) hexec hb h1 ((hK.1.2 2 _ rfl).1 N _) (by rw [arrV_size] <;> rfl) rfl rfl hd K
theorem g_iald {a N j : Nat} {i x : Int32} (hx : zOk f E Y d kk) (hd : decode Y.2.1 pc = .ok (.iaload, 1)) (hq : pc + 1 = q) (hg : Γ a = some (1, N)) (hi : i = nI j) (hj : j < N) (hN : N < 2 ^ 31) (hv : zi M a j = x)
    (kk9 : zGo f E Γ n k M q lc (.int x :: st)) : zGo f E Γ n k M pc lc (.int i :: .ref a :: st) := by
  obtain ⟨⟨p, l, e, R, s, m, args, below, meth, c0⟩, nL, Q⟩ := f
  subst hq; subst hi
  intro H locs ls hz hR hS hl
  have K := kk9 H locs ls hz hR hS hl
  have h1 : H[a]? = some (arrV E.2.1 N (fun j => .int (M.1 a j))) := (hR a _ hg).1
  obtain ⟨hexec, hb, -, hown, hts, hK, -⟩ := hx
  exact W.iald (v := .int x) hexec hb h1 ((hK.1.2 0 _ rfl).1 N _) (fun q => by cases q) (by rw [arrV_size]; exact nI_in hj hN) (by rw [nI_clamp (Nat.lt_trans hj hN), arrV_read _ _ hj, ← hv]; rfl) rfl rfl hd K
theorem g_iast {a N j : Nat} {i x : Int32} (hx : zOk f E Y d kk) (hd : decode Y.2.1 pc = .ok (.iastore, 1)) (hq : pc + 1 = q) (hg : Γ a = some (1, N)) (hi : i = nI j) (hj : j < N) (hN : N < 2 ^ 31)
    (kk9 : zGo f E Γ n k (zsi M a j x) q lc st) : zGo f E Γ n k M pc lc (.int x :: .int i :: .ref a :: st) := by
  obtain ⟨⟨p, l, e, R, s, m, args, below, meth, c0⟩, nL, Q⟩ := f
  subst hq; subst hi
  intro H locs ls hz hR hS hl
  have h1 : H[a]? = some (arrV E.2.1 N (fun j => .int (M.1 a j))) := (hR a _ hg).1
  have hao := z_own hR hg
  obtain ⟨hexec, hb, -, hown, hts, hK, -⟩ := hx
  refine W.iast hexec hb h1 ((hK.1.2 0 _ rfl).1 N _) (fun q => by cases q) (by rw [arrV_size]; exact nI_in hj hN) rfl rfl hd fun H' e1 e2 e3 => ?_
  refine kk9 H' _ ls (e2.trans hz) (hR.put hg (zcl_si_n _ _ _ _) ?_ e3) (hS.put e2 e3 hao) hl
  rw [zcl_si]
  show H'[a]? = some (arrV E.2.1 N _)
  rw [e1, nI_clamp (Nat.lt_trans hj hN), arrV_store]
  congr 2
  funext z
  simp only [updV, va_up]
  split <;> rfl
theorem g_lald {a N j : Nat} {i : Int32} {x : Int64} (hx : zOk f E Y d kk) (hd : decode Y.2.1 pc = .ok (.laload, 1)) (hq : pc + 1 = q) (hg : Γ a = some (2, N)) (hi : i = nI j) (hj : j < N) (hN : N < 2 ^ 31) (hv : zl M a j = x)
    (kk9 : zGo f E Γ n k M q lc (.long x :: st)) : zGo f E Γ n k M pc lc (.int i :: .ref a :: st) := by
  obtain ⟨⟨p, l, e, R, s, m, args, below, meth, c0⟩, nL, Q⟩ := f
  subst hq; subst hi
  intro H locs ls hz hR hS hl
  have K := kk9 H locs ls hz hR hS hl
  have h1 : H[a]? = some (arrV E.2.2.1 N (fun j => .long (M.2.1 a j))) := (hR a _ hg).1
  obtain ⟨hexec, hb, -, hown, hts, hK, -⟩ := hx
  exact W.lald (v := .long x) hexec hb h1 ((hK.1.2 1 _ rfl).1 N _) (fun q => by cases q) (by rw [arrV_size]; exact nI_in hj hN) (by rw [nI_clamp (Nat.lt_trans hj hN), arrV_read _ _ hj, ← hv]; rfl) rfl rfl hd K
theorem g_last {a N j : Nat} {i : Int32} {x : Int64} (hx : zOk f E Y d kk) (hd : decode Y.2.1 pc = .ok (.lastore, 1)) (hq : pc + 1 = q) (hg : Γ a = some (2, N)) (hi : i = nI j) (hj : j < N) (hN : N < 2 ^ 31)
    (kk9 : zGo f E Γ n k (zsl M a j x) q lc st) : zGo f E Γ n k M pc lc (.long x :: .int i :: .ref a :: st) := by
  obtain ⟨⟨p, l, e, R, s, m, args, below, meth, c0⟩, nL, Q⟩ := f
  subst hq; subst hi
  intro H locs ls hz hR hS hl
  have h1 : H[a]? = some (arrV E.2.2.1 N (fun j => .long (M.2.1 a j))) := (hR a _ hg).1
  have hao := z_own hR hg
  obtain ⟨hexec, hb, -, hown, hts, hK, -⟩ := hx
  refine W.last hexec hb h1 ((hK.1.2 1 _ rfl).1 N _) (fun q => by cases q) (by rw [arrV_size]; exact nI_in hj hN) rfl rfl hd fun H' e1 e2 e3 => ?_
  refine kk9 H' _ ls (e2.trans hz) (hR.put hg (zcl_sl_n _ _ _ _) ?_ e3) (hS.put e2 e3 hao) hl
  rw [zcl_sl]
  show H'[a]? = some (arrV E.2.2.1 N _)
  rw [e1, nI_clamp (Nat.lt_trans hj hN), arrV_store]
  congr 2
  funext z
  simp only [updV, va_up]
  split <;> rfl
theorem g_aald {a N j b : Nat} {i : Int32} (hx : zOk f E Y d kk) (hd : decode Y.2.1 pc = .ok (.aaload, 1)) (hq : pc + 1 = q) (hg : Γ a = some (3, N)) (hi : i = nI j) (hj : j < N) (hN : N < 2 ^ 31) (hv : zr M a j = b) (hb0 : b ≠ 0)
    (kk9 : zGo f E Γ n k M q lc (.ref b :: st)) : zGo f E Γ n k M pc lc (.int i :: .ref a :: st) := by
  obtain ⟨⟨p, l, e, R, s, m, args, below, meth, c0⟩, nL, Q⟩ := f
  subst hq; subst hi
  intro H locs ls hz hR hS hl
  have K := kk9 H locs ls hz hR hS hl
  have h1 : H[a]? = some (arrV E.2.2.2.1 N (fun j => va_rf (zo (M.2.2 a j)))) := (hR a _ hg).1
  obtain ⟨hexec, hb, -, hown, hts, hK, -⟩ := hx
  refine W.aald (v := .ref b) (ty := .object zRead) hexec hb h1 ((hK.1.2 2 _ rfl).1 N _) rfl (fun q => by cases q) (by rw [arrV_size]; exact nI_in hj hN) ?_ rfl rfl hd K
  rw [nI_clamp (Nat.lt_trans hj hN), arrV_read _ _ hj]
  show some (va_rf (zo (zr M a j))) = _
  rw [hv, zo_pos hb0]; rfl
theorem g_aast {a N j b : Nat} {i : Int32} (hx : zOk f E Y d kk) (hd : decode Y.2.1 pc = .ok (.aastore, 1)) (hq : pc + 1 = q) (hg : Γ a = some (3, N)) (hi : i = nI j) (hj : j < N) (hN : N < 2 ^ 31) (hgb : Γ b = some (0, zRc)) (hb0 : b ≠ 0)
    (kk9 : zGo f E Γ n k (zsr M a j b) q lc st) : zGo f E Γ n k M pc lc (.ref b :: .int i :: .ref a :: st) := by
  obtain ⟨⟨p, l, e, R, s, m, args, below, meth, c0⟩, nL, Q⟩ := f
  subst hq; subst hi
  intro H locs ls hz hR hS hl
  have h1 : H[a]? = some (arrV E.2.2.2.1 N (fun j => va_rf (zo (M.2.2 a j)))) := (hR a _ hg).1
  have hao := z_own hR hg
  obtain ⟨⟨r', hr', cell, g1, g2, g3, -⟩, -⟩ := hR b _ hgb
  obtain ⟨hexec, hb, -, hown, hts, hK, -⟩ := hx
  have hcls := (hK.1.1 zRc _ zRc_at).2
  obtain ⟨kA, comp, k1, k2, k3, -⟩ := (hK.1.2 2 _ rfl).2
  have hcomp : comp = E.1.1 zRc := Option.some.inj (k3.symm.trans hcls.1)
  subst hcomp
  obtain ⟨kC, hkC, -⟩ := hcls.2
  have hsz : ¬ nI j < 0 ∧ (nI j).toNatClampNeg < (arrV E.2.2.2.1 N (fun j => va_rf (zo (M.2.2 a j)))).slots.size := by
    have h9 := nI_in hj hN
    rw [arrV_size]
    exact ⟨fun h => h9 (Or.inl h), Nat.not_le.mp fun h => h9 (Or.inr h)⟩
  refine W.aast hexec hb h1 (fun q h => by cases h) (fun h => by cases h) k1 k2 rfl hkC hsz g1 (fun q h => by rw [g3] at h; cases h) (by rw [g2]; exact hkC) (by rw [g2]; exact va_assign hcls) rfl rfl hd fun H' e1 e2 e3 => ?_
  refine kk9 H' _ ls (e2.trans hz) (hR.put hg (zcl_sr_n _ _ _ _) ?_ e3) (hS.put e2 e3 hao) hl
  rw [zcl_sr]
  show H'[a]? = some (arrV E.2.2.2.1 N _)
  rw [e1, nI_clamp (Nat.lt_trans hj hN), arrV_store]
  congr 2
  funext z
  simp only [updV, va_up]
  split
  · rw [zo_pos hb0]; rfl
  · rfl
end ZB
/-! making cells -/
def zc0 : zc := (fun _ => 0, fun _ => 0, fun _ => 0)
theorem zTy_0 (c j : Nat) : zV (zTy c j) zc0 j = defaultValue (zTy c j) := by
  unfold zTy
  split <;> (first | unfold zt0 | unfold zt1 | unfold zt2 | unfold zt3 | unfold zt4 | unfold zt5 | unfold zt6 | unfold zt7) <;> split <;> rfl
theorem zR.push {E : zE} {Γ : zG} {M : zM} {H H1 : Heap} (h : zR E Γ M H) {n : Nat} (hz : H.size = n) (hlo : zlo E ≤ n) (sh : Nat × Nat) (hx : zAt E sh n zc0 H1) (ho : ∀ q : Nat, q < n → H1[q]? = H[q]?) : zR E (va_up Γ n (some sh)) (zpush M n) H1 := by
  intro b sh' hb
  by_cases e : b = n
  · subst e
    rw [va_up_self] at hb
    cases hb
    rw [zcl_pu]
    exact ⟨hx, hlo⟩
  · rw [va_up_ne _ _ e] at hb
    obtain ⟨h1, h2⟩ := h b sh' hb
    rw [zcl_pu_n _ _ _ e]
    exact ⟨h1.kept (ho b (by have := h1.lt; omega)), h2⟩
theorem va_S.grow {A : Nat → Prop} {H0 H H1 : Heap} {locs : List Loc} (h : va_S A H0 H locs) {n : Nat} (hz : H.size = n) (hz1 : H1.size = n + 1) (ho : ∀ q : Nat, q < n → H1[q]? = H[q]?) : va_S A H0 H1 locs :=
  ⟨Nat.le_trans h.1 (by omega), fun x h1 h2 => (ho x (by have := h.1; omega)).trans (h.2.1 x h1 h2), h.2.2⟩
section ZC
variable {f : zF} {E : zE} {Y : zY} {d : Nat} {kk : Nat × Nat} {Γ : zG} {n : Nat} {k : Nat × Nat} {M : zM} {pc q : Nat} {lc : List (Nat × Value)} {st : List Value}
theorem z_lo (hx : zOk f E Y d kk) {H : Heap} {locs : List Loc} (hS : va_S (zA E) (zs f.1).heap H locs) : zlo E ≤ H.size := Nat.le_trans hx.2.2.2.2.2.2.2.1 hS.1
theorem g_new {i c N : Nat} {C : String} {T : u_T} (hx : zOk f E Y d kk) (hd : decode Y.2.1 pc = .ok (.new i, 3)) (hq : pc + 3 = q) (hc : zCl[c]? = some (C, T, N)) (hw1 : Cond.classLink Y.1.cls i C ∈ zWs) (hw2 : Cond.instantiable C N ∈ zWs) (hw3 : Cond.initialized C ∈ zWs)
    (hk1 : k.1 + 1 ≤ kk.1) (hk2 : k.2 + N ≤ kk.2) (kk9 : zlo E ≤ n → zGo f E (va_up Γ n (some (0, c))) (n + 1) (k.1 + 1, k.2 + N) (zpush M n) q lc (.ref n :: st)) : zGo f E Γ n k M pc lc st := by
  obtain ⟨⟨p, l, e, R, s, m, args, below, meth, c0⟩, nL, Q⟩ := f
  subst hq
  intro H locs ls hz hR hS hl
  have hlo : zlo E ≤ n := by rw [← hz]; exact z_lo hx hS
  obtain ⟨hexec, hb, -, hown, hts, hK, -, -, -, -, -, -, -, ⟨hr1, -⟩, hr2⟩ := hx
  have hKn := hK.1.1 c _ hc
  refine W.newcK hexec hb hown (hts _ hw1) (hts _ hw2) (hts _ hw3) rfl hd (Nat.le_trans hk1 hr1) (Nat.le_trans hk2 hr2) hKn.2.1 hz fun H1 kC hkC e1 z1 o1 => ?_
  have hb9 := u_born (zTy c) hts (zCl_ws hc) hKn hkC e1 (zCl_ty hc)
  exact kk9 hlo H1 locs ls z1 (hR.push hz hlo (0, c) ⟨_, hc, hb9.to (fun j _ => (zTy_0 c j).symm)⟩ o1) (hS.grow hz z1 o1) hl
theorem g_newi {N : Nat} {i : Int32} (hx : zOk f E Y d kk) (hd : decode Y.2.1 pc = .ok (.newarray .int, 2)) (hq : pc + 2 = q) (hi : i = nI N) (hN : N ≤ 65536) (hw : Cond.arrayClass .int ∈ zWs)
    (hk1 : k.1 + 1 ≤ kk.1) (hk2 : k.2 + N ≤ kk.2) (kk9 : zlo E ≤ n → zGo f E (va_up Γ n (some (1, N))) (n + 1) (k.1 + 1, k.2 + N) (zpush M n) q lc (.ref n :: st)) : zGo f E Γ n k M pc lc (.int i :: st) := by
  obtain ⟨⟨p, l, e, R, s, m, args, below, meth, c0⟩, nL, Q⟩ := f
  subst hq; subst hi
  intro H locs ls hz hR hS hl
  have hlo : zlo E ≤ n := by rw [← hz]; exact z_lo hx hS
  obtain ⟨hexec, hb, -, hown, hts, hK, -, -, -, -, -, -, -, ⟨hr1, -⟩, hr2⟩ := hx
  refine va_newaK (atype := .int) (N := N) hexec hb (hts _ hw) rfl hd rfl (nI_pos (by omega)) (nI_clamp (by omega)) (by show N * 4 ≤ _; omega) (Nat.le_trans hk1 hr1) (Nat.le_trans hk2 hr2) hz fun H1 cA e1 z1 o1 hA hnm => ?_
  have hcA : cA = E.2.1 := Option.some.inj (hnm.symm.trans (hK.1.2 0 _ rfl).2)
  subst hcA
  exact kk9 hlo H1 locs ls z1 (hR.push hz hlo (1, N) e1 o1) (hS.grow hz z1 o1) hl
theorem g_newl {N : Nat} {i : Int32} (hx : zOk f E Y d kk) (hd : decode Y.2.1 pc = .ok (.newarray .long, 2)) (hq : pc + 2 = q) (hi : i = nI N) (hN : N ≤ 65536) (hw : Cond.arrayClass .long ∈ zWs)
    (hk1 : k.1 + 1 ≤ kk.1) (hk2 : k.2 + N ≤ kk.2) (kk9 : zlo E ≤ n → zGo f E (va_up Γ n (some (2, N))) (n + 1) (k.1 + 1, k.2 + N) (zpush M n) q lc (.ref n :: st)) : zGo f E Γ n k M pc lc (.int i :: st) := by
  obtain ⟨⟨p, l, e, R, s, m, args, below, meth, c0⟩, nL, Q⟩ := f
  subst hq; subst hi
  intro H locs ls hz hR hS hl
  have hlo : zlo E ≤ n := by rw [← hz]; exact z_lo hx hS
  obtain ⟨hexec, hb, -, hown, hts, hK, -, -, -, -, -, -, -, ⟨hr1, -⟩, hr2⟩ := hx
  refine va_newaK (atype := .long) (N := N) hexec hb (hts _ hw) rfl hd rfl (nI_pos (by omega)) (nI_clamp (by omega)) (by show N * 8 ≤ _; omega) (Nat.le_trans hk1 hr1) (Nat.le_trans hk2 hr2) hz fun H1 cA e1 z1 o1 hA hnm => ?_
  have hcA : cA = E.2.2.1 := Option.some.inj (hnm.symm.trans (hK.1.2 1 _ rfl).2)
  subst hcA
  exact kk9 hlo H1 locs ls z1 (hR.push hz hlo (2, N) e1 o1) (hS.grow hz z1 o1) hl
theorem g_newr {N j : Nat} {i : Int32} (hx : zOk f E Y d kk) (hd : decode Y.2.1 pc = .ok (.anewarray j, 3)) (hq : pc + 3 = q) (hi : i = nI N) (hN : N ≤ 65536) (hw : Cond.classLink Y.1.cls j zRead ∈ zWs)
    (hk1 : k.1 + 1 ≤ kk.1) (hk2 : k.2 + N ≤ kk.2) (kk9 : zlo E ≤ n → zGo f E (va_up Γ n (some (3, N))) (n + 1) (k.1 + 1, k.2 + N) (zpush M n) q lc (.ref n :: st)) : zGo f E Γ n k M pc lc (.int i :: st) := by
  obtain ⟨⟨p, l, e, R, s, m, args, below, meth, c0⟩, nL, Q⟩ := f
  subst hq; subst hi
  intro H locs ls hz hR hS hl
  have hlo : zlo E ≤ n := by rw [← hz]; exact z_lo hx hS
  obtain ⟨hexec, hb, -, hown, hts, hK, -, -, -, -, -, -, -, ⟨hr1, -⟩, hr2⟩ := hx
  have hcl : (nI N).toNatClampNeg = N := nI_clamp (by omega)
  refine W.anew hexec hb hown (hts _ hw) (va_AO.use hK.2.2.1) rfl hd rfl (nI_pos (by omega)) (by rw [hcl]; omega) (Nat.le_trans hk1 hr1) (by rw [hcl]; exact Nat.le_trans hk2 hr2) fun cA kA comp f1 f2 f3 f4 => ?_
  rw [hcl]
  generalize hH1 : H.push ({ cls := cA, slots := Array.replicate N .null, vm := .none } : Cell) = H1
  have z1 : H1.size = n + 1 := by rw [← hH1, Array.size_push, hz]
  have e1 : H1[n]? = some (arrV cA N (fun _ => .null)) := by rw [← hH1, ← hz, Array.getElem?_push_size, ← arrV_new]
  have o1 : ∀ q : Nat, q < n → H1[q]? = H[q]? := fun q hq => by rw [← hH1, Array.getElem?_push, if_neg (by omega)]
  obtain ⟨kA', comp', k1, k2, k3, k4⟩ := (hK.1.2 2 _ rfl).2
  have hcA : cA = E.2.2.2.1 := Option.some.inj (f1.symm.trans k4)
  subst hcA
  subst hz
  exact kk9 hlo H1 locs ls z1 (hR.push rfl hlo (3, N) e1 o1) (hS.grow rfl z1 o1) hl
/-! ends -/
theorem g_ret0 {post : zP} {v : Option Value} (hx : zOk f E Y d kk) (hQ : zEnd f E post kk) (hk : k.1 ≤ kk.1 ∧ k.2 ≤ kk.2) (hp : post v Γ n M)
    (w : ∀ (H : Heap) (locs : List Loc) (ls : Array Slot), (∀ t : State, t.heap = H → (zs f.1).WarmedH t.vm → zQ E post (za f.1) (zs f.1) (.returned v) t) → (∀ q ∈ locs, zA E q.base) →
      W (zp f.1) (zll f.1) (ze f.1) (zRo f.1) (zs f.1) (zm f.1) (za f.1) (zbe f.1) (zme f.1) (zco f.1) H locs kk.1 kk.2 (MQ (zbe f.1) (zQ E post) (za f.1) (zs f.1) kk.1 kk.2 (zA E)) (F0 (zm f.1) pc ls st)) : zGo f E Γ n k M pc lc st := by
  intro H locs ls hz hR hS hl T hT X
  have hold := hx.2.2.2.2.2.2.2.2.2.2.2.2.2.1.2
  obtain ⟨t, a1, b1⟩ := W.widen hk.1 hk.2 (w H locs ls (fun t ht hW => ⟨⟨v, Γ, n, M, rfl, hp, by rw [ht]; exact hz, by rw [ht]; exact hR, zK.warm hW hx.2.2.2.2.2.1, by rw [← hz]; exact z_lo hx hS, by rw [ht]; exact (hold.kept hS).moved hW.alike⟩, hS.F ht⟩) hS.2.2) T hT X
  exact ⟨t, a1, hQ t b1⟩
theorem g_iret {post : zP} {v : Int32} (hx : zOk f E Y d kk) (hd : decode Y.2.1 pc = .ok (.ireturn, 1)) (hr : Y.2.2.2 = some .int) (hQ : zEnd f E post kk) (hk : k.1 ≤ kk.1 ∧ k.2 ≤ kk.2) (hp : post (some (.int v)) Γ n M) : zGo f E Γ n k M pc lc [.int v] :=
  g_ret0 hx hQ hk hp fun H locs ls h1 h2 => W.iret hx.1 hx.2.1 (hx.2.2.2.2.2.2.2.2.1.trans hr) h1 h2 hd (hlocks := hx.2.2.2.2.2.2.1)
theorem g_zret {post : zP} {v : Int32} (hx : zOk f E Y d kk) (hd : decode Y.2.1 pc = .ok (.ireturn, 1)) (hr : Y.2.2.2 = some .boolean) (hb : v = 0 ∨ v = 1) (hQ : zEnd f E post kk) (hk : k.1 ≤ kk.1 ∧ k.2 ≤ kk.2) (hp : post (some (.int v)) Γ n M) : zGo f E Γ n k M pc lc [.int v] :=
  g_ret0 hx hQ hk hp fun H locs ls h1 h2 => W.zret hx.1 hx.2.1 (hx.2.2.2.2.2.2.2.2.1.trans hr) (by rcases hb with rfl | rfl <;> decide) h1 h2 hd (hlocks := hx.2.2.2.2.2.2.1)
theorem g_lret {post : zP} {v : Int64} (hx : zOk f E Y d kk) (hd : decode Y.2.1 pc = .ok (.lreturn, 1)) (hr : Y.2.2.2 = some .long) (hQ : zEnd f E post kk) (hk : k.1 ≤ kk.1 ∧ k.2 ≤ kk.2) (hp : post (some (.long v)) Γ n M) : zGo f E Γ n k M pc lc [.long v] :=
  g_ret0 hx hQ hk hp fun H locs ls h1 h2 => W.lret hx.1 hx.2.1 (hx.2.2.2.2.2.2.2.2.1.trans hr) h1 h2 hd (hlocks := hx.2.2.2.2.2.2.1)
theorem g_vret {post : zP} (hx : zOk f E Y d kk) (hd : decode Y.2.1 pc = .ok (.return_, 1)) (hr : Y.2.2.2 = none) (hQ : zEnd f E post kk) (hk : k.1 ≤ kk.1 ∧ k.2 ≤ kk.2) (hp : post none Γ n M) : zGo f E Γ n k M pc lc [] :=
  g_ret0 hx hQ hk hp fun H locs ls h1 h2 => W.vret hx.1 hx.2.1 (hx.2.2.2.2.2.2.2.2.1.trans hr) h1 h2 hd (hlocks := hx.2.2.2.2.2.2.1)
theorem g_objInit {i a : Nat} (hx : zOk f E Y d kk) (hd : decode Y.2.1 pc = .ok (.invokespecial i, 3)) (hq : pc + 3 = q) (hd1 : 1 ≤ d) (hw1 : Cond.methodLink Y.1.cls i objectInit ∈ zWs) (hw2 : Cond.instanceMethod objectInit ∈ zWs) (hw3 : Cond.code objectInit ⟨#[0xb1]⟩ 1 none ∈ zWs) (hst : (st.map fun v => v.category).sum ≤ 8)
    (kk9 : zGo f E Γ n k M q lc st) : zGo f E Γ n k M pc lc (.ref a :: st) := by
  obtain ⟨⟨p, l, e, R, s, m, args, below, meth, c0⟩, nL, Q⟩ := f
  subst hq
  intro H locs ls hz hR hS hl
  have K := kk9 H locs ls hz hR hS hl
  obtain ⟨hexec, hb, hml, hown, hts, hK, -, -, -, -, -, hf1, hf2, -⟩ := hx
  refine W.objInit hexec hb hown (hts _ hw1) (hts _ hw2) (hts _ hw3) rfl (hl.1.trans hml.symm) rfl hd (Nat.le_trans hd1 hf1) ?_ K
  have hf3 : 40 * d ≤ R.locals := hf2
  have hst9 : (st.map fun v => v.category).sum ≤ 8 := hst
  show 2 * 0 + (st.map fun v => v.category).sum + 12 ≤ R.locals
  have : 40 * 1 ≤ 40 * d := Nat.mul_le_mul_left _ hd1
  omega
end ZC
theorem zCt.of {l : Launch} {E : zE} {Y : zY} {d : Nat} {kk : Nat × Nat} {av : List Value} {Γ : zG} {n : Nat} {M : zM} {post : zP} (lc : List (Nat × Value)) (hy : plainName Y.1.cls = true) (hav : (lg_sl av).length ≤ Y.2.2.1) (hlc : lv_args 0 av = lc)
    (body : ∀ f : zF, zll f.1 = l → zOk f E Y d kk → zEnd f E post kk → zGo f E Γ n (0, 0) M 0 lc []) : zCt l E Y d kk av Γ n M post := by
  refine Met.ofW (cc := Y.2.1) (maxL := Y.2.2.1) (ret := Y.2.2.2) hy rfl ?_
  intro p e s m args below meth c s₁ B hml hv
  obtain ⟨rfl, hz, hR, hK, hlo, hold⟩ := hv
  have hts := atoms_spec (ws := Cond.code Y.1 Y.2.1 Y.2.2.1 Y.2.2.2 :: zWs) B.pre
  rw [lg_entry_eq]
  have hl := lv_entry av (n := Y.2.2.1) hav
  rw [hlc] at hl
  exact body ((p, l, e, zRm d kk, s, m, av.toArray, below, meth, c), Y.2.2.1, MQ below (zQ E post) av.toArray s kk.1 kk.2 (zA E)) rfl
    ⟨B.exec, B.bytes, hml, findClass_of_methodNamed B.named, fun w hw => hts w (List.mem_cons_of_mem _ hw), hK, B.notSynchronized, by show zlo E ≤ s.heap.size; rw [hz]; exact hlo, B.returns, rfl, fun h => (name_of_methodNamed B.named B.method).1.trans h, Nat.le_refl _, Nat.le_refl _, ⟨Nat.le_refl _, hold⟩, Nat.le_refl _⟩ (fun t h => h) s.heap [] _ hz hR va_S.rf hl
/-! calls -/
theorem zgood {ws : List Cond} (h : ∀ w ∈ ws, w ∈ zWs) : GoodIn zWs ws := fun w hw => ⟨h w hw, good_of_word (zWs_good w (h w hw))⟩
/-- invokevirtual of a method by its own class, on an object of that class -/
def zLv (own : String) (i : Nat) (Z : zY) (a : Nat) : Prop :=
  (Cond.methodLink own i Z.1 ∈ zWs ∨ ∃ host : String, Cond.methodLinkNest own i Z.1 host ∈ zNs) ∧ Cond.instanceMethod Z.1 ∈ zWs ∧ Cond.selects Z.1.cls Z.1 Z.1 ∈ zWs ∧ Cond.initialized Z.1.cls ∈ zWs ∧ Cond.code Z.1 Z.2.1 Z.2.2.1 Z.2.2.2 ∈ zWs ∧
  Z.1.cls ≠ "java/lang/invoke/MethodHandle" ∧ Z.1.cls ≠ "java/lang/invoke/VarHandle" ∧ (parseMethodDescriptor Z.1.desc).map (fun d => d.parameters.length) = some a ∧ Z.2.2.1 ≤ 21
/-- invokevirtual of x, which owner declares, on an object of class C: Z runs -/
def zLu (own : String) (i : Nat) (C owner : String) (x : MethodName) (Z : zY) (a : Nat) : Prop :=
  Cond.methodLink own i x ∈ zWs ∧ Cond.sameMethod x.cls owner x.name x.desc ∈ zWs ∧ Cond.selects C x Z.1 ∈ zWs ∧ Cond.instanceMethod Z.1 ∈ zWs ∧ Cond.initialized Z.1.cls ∈ zWs ∧ Cond.code Z.1 Z.2.1 Z.2.2.1 Z.2.2.2 ∈ zWs ∧
  (Z.1 = ⟨owner, x.name, x.desc⟩ ∨ Cond.declares ⟨owner, x.name, x.desc⟩ ∈ zNs) ∧ owner ≠ "java/lang/invoke/MethodHandle" ∧ owner ≠ "java/lang/invoke/VarHandle" ∧ (parseMethodDescriptor x.desc).map (fun d => d.parameters.length) = some a ∧ Z.2.2.1 ≤ 21
/-- invokestatic -/
def zLs (own : String) (i : Nat) (Z : zY) (a : Nat) : Prop :=
  (Cond.methodLink own i Z.1 ∈ zWs ∨ ∃ host : String, Cond.methodLinkNest own i Z.1 host ∈ zNs) ∧ Cond.static Z.1 ∈ zWs ∧ Cond.initialized Z.1.cls ∈ zWs ∧ Cond.code Z.1 Z.2.1 Z.2.2.1 Z.2.2.2 ∈ zWs ∧
  Z.1.cls ≠ "java/lang/invoke/MethodHandle" ∧ Z.1.cls ≠ "java/lang/invoke/VarHandle" ∧ (parseMethodDescriptor Z.1.desc).map (fun d => d.parameters.length) = some a ∧ Z.2.2.1 ≤ 21
/-- invokespecial of a constructor -/
def zLi (own : String) (i : Nat) (Z : zY) (a : Nat) : Prop :=
  (Cond.methodLink own i Z.1 ∈ zWs ∨ ∃ host : String, Cond.methodLinkNest own i Z.1 host ∈ zNs) ∧ Cond.instanceMethod Z.1 ∈ zWs ∧ Cond.initialized Z.1.cls ∈ zWs ∧ Cond.code Z.1 Z.2.1 Z.2.2.1 none ∈ zWs ∧ Z.1.name = "<init>" ∧ Z.2.2.2 = none ∧
  Z.1.cls ≠ "java/lang/invoke/MethodHandle" ∧ Z.1.cls ≠ "java/lang/invoke/VarHandle" ∧ (parseMethodDescriptor Z.1.desc).map (fun d => d.parameters.length) = some a ∧ Z.2.2.1 ≤ 21
/-- a call whose callee leaves post -/
def zRun (f : zF) (E : zE) (Γ : zG) (n : Nat) (k : Nat × Nat) (M : zM) (pc : Nat) (lc : List (Nat × Value)) (st0 rest : List Value) (k' : Nat × Nat) (post : zP) : Prop :=
  ∀ (H : Heap) (locs : List Loc) (ls : Array Slot), H.size = n → zR E Γ M H → va_S (zA E) (zs f.1).heap H locs → lv_has ls f.2.1 lc →
    ∃ aa : Array Value, va_Run (zp f.1) (zll f.1) (ze f.1) (zRo f.1) (zs f.1) (zm f.1) (za f.1) (zbe f.1) (zme f.1) (zco f.1) H locs k.1 k.2 k'.1 k'.2 (F0 (zm f.1) pc ls st0) rest (zQ E post aa) (zA E)
section ZD
variable {f : zF} {E : zE} {Y : zY} {d : Nat} {kk : Nat × Nat} {Γ : zG} {n : Nat} {k k' : Nat × Nat} {M : zM} {pc q : Nat} {lc : List (Nat × Value)} {st rest : List Value}
theorem g_run {post : zP} (hr : zRun f E Γ n k M pc lc st rest k' post) (hq : pc + 3 = q) (kk9 : ∀ (v : Option Value) (Γ' : zG) (n' : Nat) (M' : zM), post v Γ' n' M' → zGo f E Γ' n' (k.1 + k'.1, k.2 + k'.2) M' q lc (v.toList ++ rest)) : zGo f E Γ n k M pc lc st := by
  subst hq
  intro H locs ls hz hR hS hl T hT X
  obtain ⟨aa, hr⟩ := hr H locs ls hz hR hS hl
  obtain ⟨v, st₀, t, T', L, h0, X', hL, e1, e2, ⟨⟨v', Γ', n', M', hv, hp, hz1, hR1, hK1, hlo1, -⟩, hz2, hk2⟩, stp⟩ := hr T hT X
  cases hv
  rw [h0] at hz2 hk2
  have hS' : va_S (zA E) (zs f.1).heap T'.heap (locs ++ L) := ⟨Nat.le_trans hS.1 (by rw [e1]; exact hz2), fun x h1 h2 => by rw [e1, hk2 x (Nat.lt_of_lt_of_le h1 hS.1) h2]; exact hS.2.1 x h1 h2, fun x hx => by
    rcases List.mem_append.mp hx with h | h
    · exact hS.2.2 x h
    · exact hL x h⟩
  obtain ⟨t2, a1, b1⟩ := kk9 v Γ' n' M' hp T'.heap (locs ++ L) ls (by rw [e1]; exact hz1) (by rw [e1]; exact hR1) hS' hl T' rfl X'
  exact ⟨t2, stp t2 a1, b1⟩
theorem g_cv {post : zM → Prop} (hr : zRun f E Γ n k M pc lc st rest (0, 0) (zPv Γ n post)) (hq : pc + 3 = q) (kk9 : ∀ M' : zM, post M' → zGo f E Γ n k M' q lc rest) : zGo f E Γ n k M pc lc st :=
  g_run hr hq (by rintro v Γ' n' M' ⟨rfl, rfl, rfl, h⟩; exact kk9 M' h)
theorem g_ci {post : Int32 → zM → Prop} (hr : zRun f E Γ n k M pc lc st rest (0, 0) (zPi Γ n post)) (hq : pc + 3 = q) (kk9 : ∀ (r : Int32) (M' : zM), post r M' → zGo f E Γ n k M' q lc (.int r :: rest)) : zGo f E Γ n k M pc lc st :=
  g_run hr hq (by rintro v Γ' n' M' ⟨r, rfl, rfl, rfl, h⟩; exact kk9 r M' h)
theorem g_cl {post : Int64 → zM → Prop} (hr : zRun f E Γ n k M pc lc st rest (0, 0) (zPl Γ n post)) (hq : pc + 3 = q) (kk9 : ∀ (r : Int64) (M' : zM), post r M' → zGo f E Γ n k M' q lc (.long r :: rest)) : zGo f E Γ n k M pc lc st :=
  g_run hr hq (by rintro v Γ' n' M' ⟨r, rfl, rfl, rfl, h⟩; exact kk9 r M' h)
theorem g_cc {post : zG → Nat → zM → Prop} (hr : zRun f E Γ n k M pc lc st rest k' (zPc post)) (hq : pc + 3 = q) (kk9 : ∀ (Γ' : zG) (n' : Nat) (M' : zM), post Γ' n' M' → zGo f E Γ' n' (k.1 + k'.1, k.2 + k'.2) M' q lc rest) : zGo f E Γ n k M pc lc st :=
  g_run hr hq (by rintro v Γ' n' M' ⟨rfl, h⟩; exact kk9 Γ' n' M' h)
theorem z_pc (hx : zOk f E Y d kk) {H : Heap} {locs : List Loc} (hz : H.size = n) (hR : zR E Γ M H) (hS : va_S (zA E) (zs f.1).heap H locs) (av : List Value) : ∀ U : State, U.heap = H → (zs f.1).WarmedH U.vm → va_Pc av (zB E Γ n M) av.toArray U :=
  fun U hU hW => ⟨rfl, by rw [hU]; exact hz, by rw [hU]; exact hR, zK.warm hW hx.2.2.2.2.2.1, by rw [← hz]; exact z_lo hx hS, by rw [hU]; exact (hx.2.2.2.2.2.2.2.2.2.2.2.2.2.1.2.kept hS).moved hW.alike⟩
theorem z_rm (hx : zOk f E Y d kk) {d' : Nat} (h : d' + 1 ≤ d) {L : Nat} (hL : L ≤ 21) : (zRm d' k').frames + 1 ≤ (zRo f.1).frames ∧ 8 + (L + 11) + (zRm d' k').locals ≤ (zRo f.1).locals := by
  have h1 := hx.2.2.2.2.2.2.2.2.2.2.2.1
  have h2 := hx.2.2.2.2.2.2.2.2.2.2.2.2.1
  have h3 : 40 * (d' + 1) ≤ 40 * d := Nat.mul_le_mul_left _ h
  refine ⟨Nat.le_trans h h1, ?_⟩
  show 8 + (L + 11) + 40 * d' ≤ _
  omega
theorem z_cl (hx : zOk f E Y d kk) {h1 : k.1 + k'.1 ≤ kk.1} {h2 : k.2 + k'.2 ≤ kk.2} : k.1 + k'.1 ≤ (zRo f.1).cells ∧ k.2 + k'.2 ≤ (zRo f.1).slots := ⟨Nat.le_trans h1 hx.2.2.2.2.2.2.2.2.2.2.2.2.2.1.1, Nat.le_trans h2 hx.2.2.2.2.2.2.2.2.2.2.2.2.2.2⟩
theorem z_recv (hx : zOk f E Y d kk) {H : Heap} (hR : zR E Γ M H) {b c : Nat} {r : vw_C} (hb : Γ b = some (0, c)) (hc : zCl[c]? = some r) : ∃ cell : Cell, H[b]? = some cell ∧ cell.vm.isStatics = false ∧ (zs f.1).vm.findClass r.1 = some cell.cls := by
  obtain ⟨⟨r', hr', cell, g1, g2, g3, -⟩, -⟩ := hR b _ hb
  exact ⟨cell, g1, by rw [g3]; rfl, by rw [g2]; exact (hx.2.2.2.2.2.1.1.1 c r hc).2.1⟩
theorem zrunV {i b c a d' : Nat} {r : vw_C} {Z : zY} {As : List Value} {post : zP} (hx : zOk f E Y d kk) (hd : decode Y.2.1 pc = .ok (.invokevirtual i, 3)) (hl : zLv Y.1.cls i Z a) (hc : zCl[c]? = some r) (hC : r.1 = Z.1.cls) (hb : Γ b = some (0, c))
    (hn : As.length = a) (hst : st = As.reverse ++ .ref b :: rest) (hw : (rest.map fun v => v.category).sum ≤ 8) (hdd : d' + 1 ≤ d) (hk1 : k.1 + k'.1 ≤ kk.1) (hk2 : k.2 + k'.2 ≤ kk.2) (hM : zCt (zll f.1) E Z d' k' (.ref b :: As) Γ n M post) : zRun f E Γ n k M pc lc st rest k' post := by
  intro H locs ls hz hR hS hls
  have hrecv := z_recv hx hR hb hc
  have hpc := z_pc hx hz hR hS (.ref b :: As)
  have hroom := z_rm (k' := k') hx hdd hl.2.2.2.2.2.2.2.2
  have hcs := z_cl hx (k := k) (k' := k') (h1 := hk1) (h2 := hk2)
  obtain ⟨hlk, hi1, hi2, hi3, hi4, hn1, hn2, hn3, -⟩ := hl
  have hgood : GoodIn zWs (Cond.code Z.1 Z.2.1 Z.2.2.1 Z.2.2.2 :: zWs) := zgood (fun w hw => (List.mem_cons.mp hw).elim (fun e => by rw [e]; exact hi4) id)
  have hts := hx.2.2.2.2.1
  refine ⟨(Value.ref b :: As).toArray, ?_⟩
  rw [hC] at hrecv
  rcases hlk with h | ⟨host, h⟩
  · exact va_runV (Ts := zWs) (own := Y.1.cls) (C := Z.1.cls) (nL := f.2.1) ⟨hx.1, hx.2.1, hx.2.2.1, hx.2.2.2.1, hts⟩ hM
      ⟨callB_of a hts hgood rfl rfl rfl (hts _ hi3) (hts _ h) ⟨hn1, hn2, hn3⟩ hroom, hts _ hi1, hts _ hi2⟩
      ⟨zB.blind, hrecv, hpc⟩ rfl hn hls.1 hst (lv_room hw) hd hcs
  · exact va_runVN (Ts := zWs) (own := Y.1.cls) (C := Z.1.cls) (nL := f.2.1) ⟨hx.1, hx.2.1, hx.2.2.1, hx.2.2.2.1, hts⟩ hM
      ⟨va_cnB a hts hgood rfl rfl rfl (hx.2.2.2.2.2.1.2.1 _ h) (hts _ hi3) ⟨hn1, hn2, hn3⟩ hroom, hts _ hi1, hts _ hi2⟩
      ⟨zB.blind, hrecv, hpc⟩ rfl hn hls.1 hst (lv_room hw) hd hcs
theorem zrunU {i b c a d' : Nat} {r : vw_C} {owner : String} {x : MethodName} {Z : zY} {As : List Value} {post : zP} (hx : zOk f E Y d kk) (hd : decode Y.2.1 pc = .ok (.invokevirtual i, 3)) (hc : zCl[c]? = some r) (hl : zLu Y.1.cls i r.1 owner x Z a) (hb : Γ b = some (0, c))
    (hn : As.length = a) (hst : st = As.reverse ++ .ref b :: rest) (hw : (rest.map fun v => v.category).sum ≤ 8) (hdd : d' + 1 ≤ d) (hk1 : k.1 + k'.1 ≤ kk.1) (hk2 : k.2 + k'.2 ≤ kk.2) (hM : zCt (zll f.1) E Z d' k' (.ref b :: As) Γ n M post) : zRun f E Γ n k M pc lc st rest k' post := by
  intro H locs ls hz hR hS hls
  have hrecv := z_recv hx hR hb hc
  have hpc := z_pc hx hz hR hS (.ref b :: As)
  obtain ⟨h1, h2, h3, h4, h5, h6, h7, h8, h9, h10, h11⟩ := hl
  have hroom := z_rm (k' := k') hx hdd h11
  have hcs := z_cl hx (k := k) (k' := k') (h1 := hk1) (h2 := hk2)
  have hgood : GoodIn zWs (va_wsU Y.1.cls i r.1 owner x Z.1 (Cond.code Z.1 Z.2.1 Z.2.2.1 Z.2.2.2 :: zWs)) := zgood (fun w hw => by
    simp only [va_wsU, List.cons_append, List.nil_append, List.mem_cons] at hw
    rcases hw with rfl | rfl | rfl | rfl | rfl | rfl | hw <;> assumption)
  have hts := hx.2.2.2.2.1
  refine ⟨(Value.ref b :: As).toArray, ?_⟩
  rcases h7 with h7 | h7
  · exact va_runU (Ts := zWs) (own := Y.1.cls) (C := r.1) (owner := owner) (nL := f.2.1) ⟨hx.1, hx.2.1, hx.2.2.1, hx.2.2.2.1, hts⟩ hM (va_cwU a hts hgood rfl rfl rfl h7 ⟨h8, h9, h10⟩ hroom) ⟨zB.blind, hrecv, hpc⟩ rfl hn hls.1 hst (lv_room hw) hd hcs
  · exact va_runU (Ts := zWs) (own := Y.1.cls) (C := r.1) (owner := owner) (nL := f.2.1) ⟨hx.1, hx.2.1, hx.2.2.1, hx.2.2.2.1, hts⟩ hM (va_cwA a hts hgood rfl rfl rfl (hx.2.2.2.2.2.1.2.1 _ h7) ⟨h8, h9, h10⟩ hroom) ⟨zB.blind, hrecv, hpc⟩ rfl hn hls.1 hst (lv_room hw) hd hcs
theorem zrunS {i a d' : Nat} {Z : zY} {As : List Value} {post : zP} (hx : zOk f E Y d kk) (hd : decode Y.2.1 pc = .ok (.invokestatic i, 3)) (hl : zLs Y.1.cls i Z a)
    (hn : As.length = a) (hst : st = As.reverse ++ rest) (hw : (rest.map fun v => v.category).sum ≤ 8) (hdd : d' + 1 ≤ d) (hk1 : k.1 + k'.1 ≤ kk.1) (hk2 : k.2 + k'.2 ≤ kk.2) (hM : zCt (zll f.1) E Z d' k' As Γ n M post) : zRun f E Γ n k M pc lc st rest k' post := by
  intro H locs ls hz hR hS hls
  have hpc := z_pc hx hz hR hS As
  obtain ⟨hlk, hi1, hi3, hi4, hn1, hn2, hn3, hn4⟩ := hl
  have hroom := z_rm (k' := k') hx hdd hn4
  have hcs := z_cl hx (k := k) (k' := k') (h1 := hk1) (h2 := hk2)
  have hgood : GoodIn zWs (Cond.code Z.1 Z.2.1 Z.2.2.1 Z.2.2.2 :: zWs) := zgood (fun w hw => (List.mem_cons.mp hw).elim (fun e => by rw [e]; exact hi4) id)
  have hts := hx.2.2.2.2.1
  refine ⟨As.toArray, ?_⟩
  rcases hlk with h | ⟨host, h⟩
  · exact va_runS (Ts := zWs) (own := Y.1.cls) (nL := f.2.1) ⟨hx.1, hx.2.1, hx.2.2.1, hx.2.2.2.1, hts⟩ hM ⟨callB_of a hts hgood rfl rfl rfl (hts _ hi3) (hts _ h) ⟨hn1, hn2, hn3⟩ hroom, hts _ hi1⟩ ⟨zB.blind, hpc⟩ rfl hn hls.1 hst (lv_room hw) hd hcs
  · exact va_runSN (Ts := zWs) (own := Y.1.cls) (nL := f.2.1) ⟨hx.1, hx.2.1, hx.2.2.1, hx.2.2.2.1, hts⟩ hM ⟨va_cnB a hts hgood rfl rfl rfl (hx.2.2.2.2.2.1.2.1 _ h) (hts _ hi3) ⟨hn1, hn2, hn3⟩ hroom, hts _ hi1, trivial⟩ ⟨zB.blind, hpc⟩ rfl hn hls.1 hst (lv_room hw) hd hcs
theorem zrunI {i b a d' : Nat} {Z : zY} {As : List Value} {post : zP} (hx : zOk f E Y d kk) (hd : decode Y.2.1 pc = .ok (.invokespecial i, 3)) (hl : zLi Y.1.cls i Z a)
    (hn : As.length = a) (hst : st = As.reverse ++ .ref b :: rest) (hw : (rest.map fun v => v.category).sum ≤ 8) (hdd : d' + 1 ≤ d) (hk1 : k.1 + k'.1 ≤ kk.1) (hk2 : k.2 + k'.2 ≤ kk.2) (hM : zCt (zll f.1) E Z d' k' (.ref b :: As) Γ n M post) : zRun f E Γ n k M pc lc st rest k' post := by
  intro H locs ls hz hR hS hls
  have hpc := z_pc hx hz hR hS (.ref b :: As)
  obtain ⟨hlk, hi1, hi3, hi4, hi5, hi6, hn1, hn2, hn3, hn4⟩ := hl
  have hroom := z_rm (k' := k') hx hdd hn4
  have hcs := z_cl hx (k := k) (k' := k') (h1 := hk1) (h2 := hk2)
  obtain ⟨zy, zb, zl9, zr9⟩ := Z
  dsimp only at hi6
  subst hi6
  have hgood : GoodIn zWs (Cond.code zy zb zl9 none :: zWs) := zgood (fun w hw => (List.mem_cons.mp hw).elim (fun e => by rw [e]; exact hi4) id)
  have hts := hx.2.2.2.2.1
  refine ⟨(Value.ref b :: As).toArray, ?_⟩
  rcases hlk with h | ⟨host, h⟩
  · exact va_runI (Ts := zWs) (own := Y.1.cls) (nL := f.2.1) ⟨hx.1, hx.2.1, hx.2.2.1, hx.2.2.2.1, hts⟩ hM ⟨callB_of a hts hgood rfl rfl rfl (hts _ hi3) (hts _ h) ⟨hn1, hn2, hn3⟩ hroom, hi5, hts _ hi1⟩ ⟨zB.blind, hpc⟩ rfl hn hls.1 hst (lv_room hw) hd hcs
  · exact va_runIN (Ts := zWs) (own := Y.1.cls) (nL := f.2.1) ⟨hx.1, hx.2.1, hx.2.2.1, hx.2.2.2.1, hts⟩ hM ⟨va_cnB a hts hgood rfl rfl rfl (hx.2.2.2.2.2.1.2.1 _ h) (hts _ hi3) ⟨hn1, hn2, hn3⟩ hroom, hi5, hts _ hi1⟩ ⟨zB.blind, hpc⟩ rfl hn hls.1 hst (lv_room hw) hd hcs
end ZD
