/-! constructors -/
def zNq (o : String) (i : Nat) : Cond → Bool
  | .fieldLinkNest o' i' _ _ _ _ => o' == o && i' == i
  | _ => false
theorem z_nf {o : String} {i c j : Nat} (h : zNs.any (zNq o i) = false) : ∀ (ref : String) (r : vw_C), zCl[c]? = some r → ∀ host : String, Cond.fieldLinkNest o i ref (r.2.1 j).2.1 (r.2.1 j).2.2.1 host ∈ zNs → False := by
  intro ref r _ host hm
  have := List.any_eq_false.mp h _ hm
  simp [zNq] at this
theorem g_putFa {f : zF} {E : zE} {Y : zY} {d : Nat} {kk : Nat × Nat} {Γ : zG} {n : Nat} {k : Nat × Nat} {M : zM} {pc q : Nat} {lc : List (Nat × Value)} {st : List Value} {i c j a b : Nat} {t : FieldType} (hx : zOk f E Y d kk) (hd : decode Y.2.1 pc = .ok (.putfield i, 3)) (hq : pc + 3 = q) (hf : zFl Y.1.cls i c j (.array t)) (hfi : zFi Y.1.cls c j) (hin : Y.1.name = "<init>") (hg : Γ a = some (0, c)) (hb : b ≠ 0) (hnq : zNs.any (zNq Y.1.cls i) = false)
    (kk9 : zGo f E Γ n k (zsr M a j b) q lc st) : zGo f E Γ n k M pc lc (.ref b :: .ref a :: st) := by
  have hty : zTy c j = .array t := by obtain ⟨_, _, _, _, h, _⟩ := hf; exact h
  exact g_putF hx hd hq hf hfi hin hg rfl rfl (z_nf hnq) (zcl_sr_n _ _ _ _) (fun j' => by rw [zcl_sr]; exact zV_upr (T := zTy c) (x := zcl M a) (fun y k => by rw [hty]; rfl) hb j') kk9
set_option maxHeartbeats 4000000 in
set_option maxRecDepth 100000 in
theorem c_Re_init (l : Launch) (E : zE) (Γ : zG) (n : Nat) (M : zM) (a : Nat) (hg : Γ a = some (0, 5)) (han : a < n) : zCt l E Y_Re_init 1 (1, 160) [.ref a] Γ n M (zPc (fun Γ' n' M' => Γ' = va_up Γ n (some (1, 160)) ∧ n' = n + 1 ∧ M' = zsi (zsr (zpush M n) a 0 n) a 1 (nI 0))) := by
  refine zCt.of [(0, .ref a)] (by decide) (Nat.le_of_ble_eq_true rfl) rfl (fun f hfl hx hQ => ?_)
  refine g_aload_n (q := 1) hx d_Re_init_0 rfl rfl ?_
  refine g_objInit (q := 4) hx d_Re_init_1 rfl (by decide) oil_Re_3 oi_im oi_co (Nat.le_of_ble_eq_true rfl) ?_
  refine g_aload_n (q := 5) hx d_Re_init_4 rfl rfl ?_
  refine g_sipush (q := 8) (v := nI 160) hx d_Re_init_5 rfl (by decide) ?_
  refine g_newi (q := 10) hx d_Re_init_8 rfl rfl (by decide) ac_int (by decide) (by decide) (fun hlo => ?_)
  have hg2 : va_up Γ n (some (1, 160)) a = some (0, 5) := (va_up_ne _ _ (by omega)).trans hg
  refine g_putFa (q := 13) hx d_Re_init_10 rfl fl_Re_9 fi_5_0 rfl hg2 (by omega) (by decide +kernel) ?_
  refine g_aload_n (q := 14) hx d_Re_init_13 rfl rfl ?_
  refine g_iconst (q := 15) (v := nI 0) hx d_Re_init_14 rfl (by decide) ?_
  refine g_puti (q := 18) hx d_Re_init_15 rfl fl_Re_15 nf_5_1 hg2 ?_
  exact g_vret hx d_Re_init_18 rfl hQ ⟨by decide, by decide⟩ ⟨rfl, rfl, rfl, rfl⟩
set_option maxHeartbeats 4000000 in
set_option maxRecDepth 100000 in
theorem c_Ar_init (l : Launch) (E : zE) (Γ : zG) (n : Nat) (M : zM) (a : Nat) (hg : Γ a = some (0, 0)) (han : a < n) : zCt l E Y_Ar_init 1 (1, 2080) [.ref a] Γ n M (zPc (fun Γ' n' M' => Γ' = va_up Γ n (some (1, 2080)) ∧ n' = n + 1 ∧ M' = zsi (zsr (zpush M n) a 0 n) a 1 (nI 0))) := by
  refine zCt.of [(0, .ref a)] (by decide) (Nat.le_of_ble_eq_true rfl) rfl (fun f hfl hx hQ => ?_)
  refine g_aload_n (q := 1) hx d_Ar_init_0 rfl rfl ?_
  refine g_objInit (q := 4) hx d_Ar_init_1 rfl (by decide) oil_Ar_3 oi_im oi_co (Nat.le_of_ble_eq_true rfl) ?_
  refine g_aload_n (q := 5) hx d_Ar_init_4 rfl rfl ?_
  refine g_sipush (q := 8) (v := nI 2080) hx d_Ar_init_5 rfl (by decide) ?_
  refine g_newi (q := 10) hx d_Ar_init_8 rfl rfl (by decide) ac_int (by decide) (by decide) (fun hlo => ?_)
  have hg2 : va_up Γ n (some (1, 2080)) a = some (0, 0) := (va_up_ne _ _ (by omega)).trans hg
  refine g_putFa (q := 13) hx d_Ar_init_10 rfl fl_Ar_9 fi_0_0 rfl hg2 (by omega) (by decide +kernel) ?_
  refine g_aload_n (q := 14) hx d_Ar_init_13 rfl rfl ?_
  refine g_iconst (q := 15) (v := nI 0) hx d_Ar_init_14 rfl (by decide) ?_
  refine g_puti (q := 18) hx d_Ar_init_15 rfl fl_Ar_15 nf_0_1 hg2 ?_
  exact g_vret hx d_Ar_init_18 rfl hQ ⟨by decide, by decide⟩ ⟨rfl, rfl, rfl, rfl⟩
