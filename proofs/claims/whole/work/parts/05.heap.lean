/-! Fields, rows, new cells, calls, answers -/
theorem cf_ws : ∀ (ci : Nat) (r : vw_C), vwCl[ci]? = some r → ∀ w ∈ u_ws r.1 r.2.1 r.2.2, w ∈ gW := by
  intro ci r hc w hw
  have key : ∀ q ∈ vwCl, (u_ws q.1 q.2.1 q.2.2).all (fun w => decide (w ∈ lw_tbl) && goodWord w) = true := by
    simp only [vwCl, List.forall_mem_cons]
    exact ⟨by decide +kernel, by decide +kernel, by decide +kernel, by decide +kernel, by decide +kernel, by decide +kernel, by decide +kernel, by decide +kernel, by decide +kernel, by decide +kernel, by decide +kernel, by decide +kernel, by decide +kernel, fun _ h => absurd h List.not_mem_nil⟩
  have h1 := List.all_eq_true.mp (key r (List.mem_of_getElem? hc)) w hw
  simp only [Bool.and_eq_true, decide_eq_true_eq] at h1
  exact List.mem_filter.mpr h1
theorem cf_ty : ∀ (ci : Nat) (r : vw_C), vwCl[ci]? = some r → (∀ k, k < r.2.2 → parseFieldDescriptor (r.2.1 k).2.2.1 = some (tyG ci k)) ∧ (∀ a, a < r.2.2 → ∀ b, b < r.2.2 → a ≠ b → (r.2.1 a).2.1 ≠ (r.2.1 b).2.1) ∧ ci < 13 := by
  intro ci r hc
  match ci, hc with
  | 0, hc => cases hc; exact ⟨tyX0_ok, nmX0, by omega⟩
  | 1, hc => cases hc; exact ⟨tyX1_ok, nmX1, by omega⟩
  | 2, hc => cases hc; exact ⟨tyX2_ok, nmX2, by omega⟩
  | 3, hc => cases hc; exact ⟨tyX3_ok, nmX3, by omega⟩
  | 4, hc => cases hc; exact ⟨tyX4_ok, nmX4, by omega⟩
  | 5, hc => cases hc; exact ⟨tyX5_ok, nmX5, by omega⟩
  | 6, hc => cases hc; exact ⟨tyX6_ok, nmX6, by omega⟩
  | 7, hc => cases hc; exact ⟨tyX7_ok, nmX7, by omega⟩
  | 8, hc => cases hc; exact ⟨tyX8_ok, nmX8, by omega⟩
  | 9, hc => cases hc; exact ⟨tyX9_ok, nmX9, by omega⟩
  | 10, hc => cases hc; exact ⟨tyX10_ok, nmX10, by omega⟩
  | 11, hc => cases hc; exact ⟨tyX11_ok, nmX11, by omega⟩
  | 12, hc => cases hc; exact ⟨tyX12_ok, nmX12, by omega⟩
  | n + 13, hc => simp [vwCl] at hc
theorem fv_sI {ty : FieldType} {M : Mem} {k a i k' a' i' : Nat} {x : Int32} (h : ¬ (k' = k ∧ a' = a ∧ i' = i)) : fv ty (sI M k a i x) k' a' i' = fv ty M k' a' i' := by
  cases ty <;> simp [fv, mI_sI, mL_sI, mR_sI, h]
theorem fv_sL {ty : FieldType} {M : Mem} {k a i k' a' i' : Nat} {x : Int64} (h : ¬ (k' = k ∧ a' = a ∧ i' = i)) : fv ty (sL M k a i x) k' a' i' = fv ty M k' a' i' := by
  cases ty <;> simp [fv, mI_sL, mL_sL, mR_sL, h]
theorem fv_sR {ty : FieldType} {M : Mem} {k a i k' a' i' : Nat} {x : Option Nat} (h : ¬ (k' = k ∧ a' = a ∧ i' = i)) : fv ty (sR M k a i x) k' a' i' = fv ty M k' a' i' := by
  cases ty <;> simp [fv, mI_sR, mL_sR, mR_sR, h]
theorem HoldsAt.obj {D : DD} {H : Heap} {M : Mem} {a ci : Nat} {r : vw_C} (h : HoldsAt D H M a) (hc : vwCl[ci]? = some r) (ha : mK M a = ci + 1) : t_OB a (D.1 ci) r.2.2 (D.2.1 ci) H (fun k => fv (tyG ci k) M (ci * 100 + k) a 0) := by
  have hlt := (cf_ty ci r hc).2.2
  unfold HoldsAt at h
  rw [ha, if_pos (by omega)] at h
  simp only [Nat.add_sub_cancel] at h
  obtain ⟨r', h1, h2⟩ := h
  cases hc.symm.trans h1
  exact h2
theorem HoldsAt.ofObj {D : DD} {H : Heap} {M : Mem} {a ci : Nat} {r : vw_C} (hc : vwCl[ci]? = some r) (ha : mK M a = ci + 1) (h : t_OB a (D.1 ci) r.2.2 (D.2.1 ci) H (fun k => fv (tyG ci k) M (ci * 100 + k) a 0)) : HoldsAt D H M a := by
  have hlt := (cf_ty ci r hc).2.2
  unfold HoldsAt
  rw [ha, if_pos (by omega)]
  simp only [Nat.add_sub_cancel]
  exact ⟨r, hc, h⟩
theorem HoldsAt.row {D : DD} {H : Heap} {M : Mem} {a t : Nat} (h : HoldsAt D H M a) (ht : mK M a / 1000000 = t) (h1 : 1 ≤ t) : H[a]? = some (arrV (D.2.2 t) (mN M a) (fun j => fv (ety t) M (mK M a) a j)) := by
  unfold HoldsAt at h
  rw [if_neg (by omega), ht] at h
  exact h
theorem HoldsAt.ofRow {D : DD} {H : Heap} {M : Mem} {a t : Nat} (ht : mK M a / 1000000 = t) (h1 : 1 ≤ t) (h : H[a]? = some (arrV (D.2.2 t) (mN M a) (fun j => fv (ety t) M (mK M a) a j))) : HoldsAt D H M a := by
  unfold HoldsAt
  rw [if_neg (by omega), ht]
  exact h
theorem KD.va {D : DD} {s : State} (h : KD D s) : va_K (D.1, D.2.1) vwCl [] s := ⟨h.1, fun k q hq => by simp at hq⟩
section OK2
variable {D : DD} {d : Nat} {μ : MI} {pc : Nat}
/-- getfield -/
theorem wp_get {M0 M : Mem} {lv : LV} {rest : List Value} {Q : Qt} {idx ci k a : Nat} {r : vw_C} (hd : decode μ.2.1 pc = .ok (.getfield idx, 3)) (hc : vwCl[ci]? = some r) (hk : k < r.2.2) (hl : Cond.fieldLink μ.1.cls idx (r.2.1 k).1 (r.2.1 k).2.1 (r.2.1 k).2.2.1 ∈ gW) (ha : mK M a = ci + 1)
    (kk : wp D d μ M0 M (pc + 3) lv (fv (tyG ci k) M (ci * 100 + k) a 0 :: rest) Q) : wp D d μ M0 M pc lv (.ref a :: rest) Q := by
  refine wp_step (fun {p l e R s m args below meth c H locs cells slots Qw ls} C hH hll _ _ kk => ?_) kk
  obtain ⟨cell, q1, q2, q3, q4⟩ := (hH.2.1 a (by rw [ha]; omega)).obj hc ha
  obtain ⟨hS, hfc, kC, hkC, hkind⟩ := C.2.2.2.2.2.1.1 ci _ hc
  obtain ⟨cf, kf, fi, f, hi, hsl⟩ := hS k hk
  refine W.getf C.1 C.2.1 C.2.2.2.1 (C.2.2.2.2.1 _ hl) hi (u_facts hfc hkC (u_lays C.2.2.2.2.1 (cf_ws ci r hc) hk) hi).1 q1 (by rw [q3]; exact fun h => by cases h) (v := fv (tyG ci k) M (ci * 100 + k) a 0) ?_ rfl rfl hd (kk _ hll)
  rw [hsl, q4 k hk]
/-- putfield -/
theorem wp_put {M0 M M1 : Mem} {lv : LV} {rest : List Value} {Q : Qt} {idx ci k a : Nat} {r : vw_C} {v : Value} (hd : decode μ.2.1 pc = .ok (.putfield idx, 3)) (hc : vwCl[ci]? = some r) (hk : k < r.2.2) (hl : Cond.fieldLink μ.1.cls idx (r.2.1 k).1 (r.2.1 k).2.1 (r.2.1 k).2.2.1 ∈ gW) (ha : mK M a = ci + 1)
    (hfin : (r.2.1 k).2.2.2 = false ∨ ((r.2.1 k).2.2.2 = true ∧ μ.1.name = "<init>" ∧ (r.2.1 k).1 = μ.1.cls)) (hn : narrow (tyG ci k) v = v) (hf : fits (tyG ci k) v = true)
    (hE : Ext M M1) (hK1 : mK M1 = mK M) (hN1 : mN M1 = mN M) (hs : mS M1 = mS M) (hu : mU M1 = mU M) (hI : ∀ q, q ≠ a → ∀ k i, mI M1 k q i = mI M k q i) (hL : ∀ q, q ≠ a → ∀ k i, mL M1 k q i = mL M k q i) (hR : ∀ q, q ≠ a → ∀ k i, mR M1 k q i = mR M k q i)
    (hv : ∀ j, updV (fun j => fv (tyG ci j) M (ci * 100 + j) a 0) k v j = fv (tyG ci j) M1 (ci * 100 + j) a 0)
    (kk : wp D d μ M0 M1 (pc + 3) lv rest Q) : wp D d μ M0 M pc lv (v :: .ref a :: rest) Q := by
  have ha0 : mK M a ≠ 0 := by rw [ha]; omega
  refine wp_write (a := a) ha0 hE hs hu (fun {p l e R s m args below meth c H locs cells slots Qw ls} C hH kk => ?_) kk
  obtain ⟨cell, q1, q2, q3, q4⟩ := (hH.2.1 a ha0).obj hc ha
  have hts := C.2.2.2.2.1
  have hin := cf_ws ci r hc
  have hap := va_apart (own := μ.1.cls) hts hin (tyG ci) (cf_ty ci r hc).1 (cf_ty ci r hc).2.1 C.2.2.2.2.2.1.va hc
  obtain ⟨hS, hfc, kC, hkC, hkind⟩ := C.2.2.2.2.2.1.1 ci _ hc
  obtain ⟨cf, kf, fi, f, hi, hsl⟩ := hS k hk
  have hlay := hts _ (hin _ (u_in_lay hk))
  have hst := (u_facts hfc hkC (u_lays hts hin hk) hi).1
  have hpd := (cf_ty ci r hc).1 k hk
  have fin : ∀ H' : Heap, H'[a]? = some (cell.setSlot f.slot v) → H'.size = H.size → (∀ q, q ≠ a → H'[q]? = H[q]?) → Holds D H' M1 := by
    intro H' e1 e2 e3
    rw [hsl] at e1
    refine hH.set ha0 e2 e3 hK1 hN1 hs hI hL hR (HoldsAt.ofObj hc (by rw [hK1]; exact ha) ?_)
    exact t_OB.to (V := updV (fun j => fv (tyG ci j) M (ci * 100 + j) a 0) k v) ⟨_, e1, q2, q3, t_set q4 hap hk v⟩ (fun j _ => hv j)
  rcases hfin with hfin | ⟨hfin, hnm, hdecl⟩
  · unfold u_lay at hlay
    rw [if_neg (by rw [hfin]; decide)] at hlay
    have h6 := u_store hfc hkC hkind hlay hi hpd hn hf
    exact W.putK C.1 C.2.1 (f := f) ⟨C.2.2.2.1, hts _ hl, ⟨_, _, _, hi⟩, hst⟩ (by rw [q2]; exact h6) q1 q3 (by rw [hsl]; exact k2_hasslot (q4 k hk)) rfl rfl hd fun H' e1 e2 e3 => kk H' _ e2 e3 (fin H' e1 e2 e3)
  · unfold u_lay at hlay
    rw [if_pos hfin] at hlay
    have hcf : m.cls = cf := by
      obtain ⟨_, _, c', _, _, _, -, -, hf', -, -, -, hown2, -⟩ := Cond.laysFinal_spec hlay
      have e1 : c' = cf := by have := hi.symm.trans hf'; simp at this; exact this.1.symm
      rw [hdecl] at hown2
      rw [← e1]; exact Option.some.inj (C.2.2.2.1.symm.trans hown2)
    have h6 := u_fits hfc hkC hkind (Or.inr hlay) hi hpd hn hf
    exact W.putFinK C.1 C.2.1 C.2.2.2.1 (hts _ hl) hi hst hcf (C.2.2.2.2.2.2.2.2.trans hnm) (by rw [q2]; exact h6) q1 q3 (by rw [hsl]; exact k2_hasslot (q4 k hk)) rfl rfl hd fun H' e1 e2 e3 => kk H' _ e2 e3 (fin H' e1 e2 e3)
def isI (ty : FieldType) : Bool := match ty with
  | .int => true
  | .boolean => true
  | _ => false
def isRf (ty : FieldType) : Bool := match ty with
  | .object _ => true
  | .array _ => true
  | _ => false
theorem fv_I {ty : FieldType} (h : isI ty = true) (M : Mem) (k a i : Nat) : fv ty M k a i = .int (mI M k a i) := by cases ty <;> simp [isI] at h <;> rfl
theorem fv_R {ty : FieldType} (h : isRf ty = true) (M : Mem) (k a i : Nat) : fv ty M k a i = va_rf (mR M k a i) := by cases ty <;> simp [isRf] at h <;> rfl
def tr_getI (n c key : Nat) (lv : LV) (st : List Value) (M : Mem) (k : Kt) (_ : Qt) : Prop := pA st (fun a r => mK M a = c ∧ k n lv (.int (mI M key a 0) :: r) M)
theorem ok_getI {idx ci k : Nat} {r : vw_C} (hd : decode μ.2.1 pc = .ok (.getfield idx, 3)) (hc : vwCl[ci]? = some r) (hk : k < r.2.2) (hl : Cond.fieldLink μ.1.cls idx (r.2.1 k).1 (r.2.1 k).2.1 (r.2.1 k).2.2.1 ∈ gW) (hty : isI (tyG ci k) = true) : TrOk D d μ pc (tr_getI (pc + 3) (ci + 1) (ci * 100 + k)) := fun M0 lv st M kt Q hkt h => by
  obtain ⟨a, r', rfl, ha, h⟩ := pA_e h
  refine wp_get hd hc hk hl ha ?_
  rw [fv_I hty]
  exact hkt _ _ _ _ h
def tr_getL (n c key : Nat) (lv : LV) (st : List Value) (M : Mem) (k : Kt) (_ : Qt) : Prop := pA st (fun a r => mK M a = c ∧ k n lv (.long (mL M key a 0) :: r) M)
theorem ok_getL {idx ci k : Nat} {r : vw_C} (hd : decode μ.2.1 pc = .ok (.getfield idx, 3)) (hc : vwCl[ci]? = some r) (hk : k < r.2.2) (hl : Cond.fieldLink μ.1.cls idx (r.2.1 k).1 (r.2.1 k).2.1 (r.2.1 k).2.2.1 ∈ gW) (hty : tyG ci k = .long) : TrOk D d μ pc (tr_getL (pc + 3) (ci + 1) (ci * 100 + k)) := fun M0 lv st M kt Q hkt h => by
  obtain ⟨a, r', rfl, ha, h⟩ := pA_e h
  refine wp_get hd hc hk hl ha ?_
  rw [hty]
  exact hkt _ _ _ _ h
def tr_getR (n c key : Nat) (lv : LV) (st : List Value) (M : Mem) (k : Kt) (_ : Qt) : Prop := pA st (fun a r => mK M a = c ∧ k n lv (va_rf (mR M key a 0) :: r) M)
theorem ok_getR {idx ci k : Nat} {r : vw_C} (hd : decode μ.2.1 pc = .ok (.getfield idx, 3)) (hc : vwCl[ci]? = some r) (hk : k < r.2.2) (hl : Cond.fieldLink μ.1.cls idx (r.2.1 k).1 (r.2.1 k).2.1 (r.2.1 k).2.2.1 ∈ gW) (hty : isRf (tyG ci k) = true) : TrOk D d μ pc (tr_getR (pc + 3) (ci + 1) (ci * 100 + k)) := fun M0 lv st M kt Q hkt h => by
  obtain ⟨a, r', rfl, ha, h⟩ := pA_e h
  refine wp_get hd hc hk hl ha ?_
  rw [fv_R hty]
  exact hkt _ _ _ _ h
def tr_putI (n c key : Nat) (lv : LV) (st : List Value) (M : Mem) (k : Kt) (_ : Qt) : Prop := pI st (fun x r => pA r (fun a r => mK M a = c ∧ k n lv r (sI M key a 0 x)))
theorem ok_putI {idx ci k : Nat} {r : vw_C} (hd : decode μ.2.1 pc = .ok (.putfield idx, 3)) (hc : vwCl[ci]? = some r) (hk : k < r.2.2) (hl : Cond.fieldLink μ.1.cls idx (r.2.1 k).1 (r.2.1 k).2.1 (r.2.1 k).2.2.1 ∈ gW) (hty : tyG ci k = .int) (hfin : (r.2.1 k).2.2.2 = false ∨ ((r.2.1 k).2.2.2 = true ∧ μ.1.name = "<init>" ∧ (r.2.1 k).1 = μ.1.cls)) : TrOk D d μ pc (tr_putI (pc + 3) (ci + 1) (ci * 100 + k)) := fun M0 lv st M kt Q hkt h => by
  obtain ⟨x, r1, rfl, hA⟩ := pI_e h
  obtain ⟨a, r2, rfl, ha, hB⟩ := pA_e hA
  refine wp_put hd hc hk hl ha hfin (by rw [hty]; rfl) (by rw [hty]; rfl) Ext.sI rfl rfl rfl rfl (fun q hq k i => ?_) (fun _ _ _ _ => rfl) (fun _ _ _ _ => rfl) (fun j => ?_) (hkt _ _ _ _ hB)
  · rw [mI_sI, if_neg (by simp [hq])]
  · unfold updV
    by_cases e : j = k
    · subst e; rw [if_pos rfl, hty]; simp [fv, mI_sI]
    · rw [if_neg e, fv_sI (by omega)]
def tr_putZ (n c key : Nat) (lv : LV) (st : List Value) (M : Mem) (k : Kt) (_ : Qt) : Prop := pI st (fun x r => pA r (fun a r => mK M a = c ∧ (x = 0 ∨ x = 1) ∧ k n lv r (sI M key a 0 x)))
theorem ok_putZ {idx ci k : Nat} {r : vw_C} (hd : decode μ.2.1 pc = .ok (.putfield idx, 3)) (hc : vwCl[ci]? = some r) (hk : k < r.2.2) (hl : Cond.fieldLink μ.1.cls idx (r.2.1 k).1 (r.2.1 k).2.1 (r.2.1 k).2.2.1 ∈ gW) (hty : tyG ci k = .boolean) (hfin : (r.2.1 k).2.2.2 = false ∨ ((r.2.1 k).2.2.2 = true ∧ μ.1.name = "<init>" ∧ (r.2.1 k).1 = μ.1.cls)) : TrOk D d μ pc (tr_putZ (pc + 3) (ci + 1) (ci * 100 + k)) := fun M0 lv st M kt Q hkt h => by
  obtain ⟨x, r1, rfl, hA⟩ := pI_e h
  obtain ⟨a, r2, rfl, ha, hx, hB⟩ := pA_e hA
  refine wp_put hd hc hk hl ha hfin (by rw [hty]; rcases hx with rfl | rfl <;> rfl) (by rw [hty]; rcases hx with rfl | rfl <;> rfl) Ext.sI rfl rfl rfl rfl (fun q hq k i => ?_) (fun _ _ _ _ => rfl) (fun _ _ _ _ => rfl) (fun j => ?_) (hkt _ _ _ _ hB)
  · rw [mI_sI, if_neg (by simp [hq])]
  · unfold updV
    by_cases e : j = k
    · subst e; rw [if_pos rfl, hty]; simp [fv, mI_sI]
    · rw [if_neg e, fv_sI (by omega)]
def tr_putL (n c key : Nat) (lv : LV) (st : List Value) (M : Mem) (k : Kt) (_ : Qt) : Prop := pL st (fun x r => pA r (fun a r => mK M a = c ∧ k n lv r (sL M key a 0 x)))
theorem ok_putL {idx ci k : Nat} {r : vw_C} (hd : decode μ.2.1 pc = .ok (.putfield idx, 3)) (hc : vwCl[ci]? = some r) (hk : k < r.2.2) (hl : Cond.fieldLink μ.1.cls idx (r.2.1 k).1 (r.2.1 k).2.1 (r.2.1 k).2.2.1 ∈ gW) (hty : tyG ci k = .long) (hfin : (r.2.1 k).2.2.2 = false ∨ ((r.2.1 k).2.2.2 = true ∧ μ.1.name = "<init>" ∧ (r.2.1 k).1 = μ.1.cls)) : TrOk D d μ pc (tr_putL (pc + 3) (ci + 1) (ci * 100 + k)) := fun M0 lv st M kt Q hkt h => by
  obtain ⟨x, r1, rfl, hA⟩ := pL_e h
  obtain ⟨a, r2, rfl, ha, hB⟩ := pA_e hA
  refine wp_put hd hc hk hl ha hfin (by rw [hty]; rfl) (by rw [hty]; rfl) Ext.sL rfl rfl rfl rfl (fun _ _ _ _ => rfl) (fun q hq k i => ?_) (fun _ _ _ _ => rfl) (fun j => ?_) (hkt _ _ _ _ hB)
  · rw [mL_sL, if_neg (by simp [hq])]
  · unfold updV
    by_cases e : j = k
    · subst e; rw [if_pos rfl, hty]; simp [fv, mL_sL]
    · rw [if_neg e, fv_sL (by omega)]
def tr_putR (n c key : Nat) (lv : LV) (st : List Value) (M : Mem) (k : Kt) (_ : Qt) : Prop := pV st (fun x r => isR x ∧ pA r (fun a r => mK M a = c ∧ k n lv r (sR M key a 0 (rfo x))))
theorem ok_putR {idx ci k : Nat} {r : vw_C} (hd : decode μ.2.1 pc = .ok (.putfield idx, 3)) (hc : vwCl[ci]? = some r) (hk : k < r.2.2) (hl : Cond.fieldLink μ.1.cls idx (r.2.1 k).1 (r.2.1 k).2.1 (r.2.1 k).2.2.1 ∈ gW) (hty : isRf (tyG ci k) = true) (hfin : (r.2.1 k).2.2.2 = false ∨ ((r.2.1 k).2.2.2 = true ∧ μ.1.name = "<init>" ∧ (r.2.1 k).1 = μ.1.cls)) : TrOk D d μ pc (tr_putR (pc + 3) (ci + 1) (ci * 100 + k)) := fun M0 lv st M kt Q hkt h => by
  obtain ⟨x, r1, rfl, hx, hA⟩ := pV_e h
  obtain ⟨a, r2, rfl, ha, hB⟩ := pA_e hA
  have h1 : narrow (tyG ci k) x = x := by
    generalize tyG ci k = ty at hty ⊢
    cases ty <;> simp [isRf] at hty <;> rcases hx with rfl | ⟨b, rfl⟩ <;> rfl
  have h2 : fits (tyG ci k) x = true := by
    generalize tyG ci k = ty at hty ⊢
    cases ty <;> simp [isRf] at hty <;> rcases hx with rfl | ⟨b, rfl⟩ <;> rfl
  refine wp_put hd hc hk hl ha hfin h1 h2 Ext.sR rfl rfl rfl rfl (fun _ _ _ _ => rfl) (fun _ _ _ _ => rfl) (fun q hq k i => ?_) (fun j => ?_) (hkt _ _ _ _ hB)
  · rw [mR_sR, if_neg (by simp [hq])]
  · unfold updV
    by_cases e : j = k
    · subst e; rw [if_pos rfl, fv_R hty, mR_sR, if_pos ⟨rfl, rfl, rfl⟩, rf_rfo hx]
    · rw [if_neg e, fv_sR (by omega)]
end OK2
