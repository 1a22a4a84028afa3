/-! Rows (arrays), new cells, calls, answers; the run -/
section OK3
variable {D : DD} {d : Nat} {μ : MI} {pc : Nat}
theorem ix_lt {i : Int32} {n : Nat} (h : vp_in i n) : i.toNatClampNeg < n := Nat.not_le.mp fun q => h (Or.inr q)
/-- a row's place is read -/
theorem wp_ald {M0 M : Mem} {lv : LV} {rest : List Value} {Q : Qt} {a t : Nat} {i : Int32} (ht : mK M a / 1000000 = t) (h1 : 1 ≤ t) (h7 : t ≤ 7) (hi : vp_in i (mN M a))
    (hd : (t = 1 ∧ decode μ.2.1 pc = .ok (.iaload, 1)) ∨ (t = 2 ∧ decode μ.2.1 pc = .ok (.laload, 1)) ∨ (t = 3 ∧ decode μ.2.1 pc = .ok (.baload, 1)) ∨ (4 ≤ t ∧ decode μ.2.1 pc = .ok (.aaload, 1)))
    (kk : wp D d μ M0 M (pc + 1) lv (fv (ety t) M (mK M a) a i.toNatClampNeg :: rest) Q) : wp D d μ M0 M pc lv (.int i :: .ref a :: rest) Q := by
  refine wp_step (fun {p l e R s m args below meth c H locs cells slots Qw ls} C hH hll _ _ kk => ?_) kk
  have hr := (hH.2.1 a (by omega)).row ht h1
  have hA := (C.2.2.2.2.2.1.2.1 t h1 h7).1 (mN M a) (fun j => fv (ety t) M (mK M a) a j)
  have hin : ¬ (i < 0 ∨ (arrV (D.2.2 t) (mN M a) (fun j => fv (ety t) M (mK M a) a j)).slots.size ≤ i.toNatClampNeg) := by rw [arrV_size]; exact hi
  have hv := arrV_read (D.2.2 t) (fun j => fv (ety t) M (mK M a) a j) (ix_lt hi)
  rcases hd with ⟨rfl, hd⟩ | ⟨rfl, hd⟩ | ⟨rfl, hd⟩ | ⟨h4, hd⟩
  · exact W.iald C.1 C.2.1 hr hA (fun q => by cases q) hin hv rfl rfl hd (kk _ hll)
  · exact W.lald C.1 C.2.1 hr hA (fun q => by cases q) hin hv rfl rfl hd (kk _ hll)
  · exact W.zald C.1 C.2.1 hr hA (fun q => by cases q) hin hv rfl rfl hd (kk _ hll)
  · refine W.aald C.1 C.2.1 hr hA ?_ (fun q => by cases q) hin hv rfl rfl hd (kk _ hll)
    rcases (show t = 4 ∨ t = 5 ∨ t = 6 ∨ t = 7 by omega) with rfl | rfl | rfl | rfl <;> rfl
theorem ety_o {t : Nat} (h4 : 4 ≤ t) : ety t = .object (enm t) := by
  match t, h4 with
  | n + 4, _ => rfl
theorem fv_t {t : Nat} (h4 : 4 ≤ t) (M : Mem) (k a i : Nat) : fv (ety t) M k a i = va_rf (mR M k a i) := by
  match t, h4 with
  | n + 4, _ => rfl
def tr_iald (n : Nat) (lv : LV) (st : List Value) (M : Mem) (k : Kt) (_ : Qt) : Prop := pI st (fun i r => pA r (fun a r => mK M a / 1000000 = 1 ∧ vp_in i (mN M a) ∧ k n lv (.int (mI M (mK M a) a i.toNatClampNeg) :: r) M))
theorem ok_iald (hd : decode μ.2.1 pc = .ok (.iaload, 1)) : TrOk D d μ pc (tr_iald (pc + 1)) := fun M0 lv st M kt Q hkt h => by
  obtain ⟨i, r1, rfl, hA⟩ := pI_e h
  obtain ⟨a, r2, rfl, ha, hi, hB⟩ := pA_e hA
  exact wp_ald ha (by omega) (by omega) hi (Or.inl ⟨rfl, hd⟩) (hkt _ _ _ _ hB)
def tr_lald (n : Nat) (lv : LV) (st : List Value) (M : Mem) (k : Kt) (_ : Qt) : Prop := pI st (fun i r => pA r (fun a r => mK M a / 1000000 = 2 ∧ vp_in i (mN M a) ∧ k n lv (.long (mL M (mK M a) a i.toNatClampNeg) :: r) M))
theorem ok_lald (hd : decode μ.2.1 pc = .ok (.laload, 1)) : TrOk D d μ pc (tr_lald (pc + 1)) := fun M0 lv st M kt Q hkt h => by
  obtain ⟨i, r1, rfl, hA⟩ := pI_e h
  obtain ⟨a, r2, rfl, ha, hi, hB⟩ := pA_e hA
  exact wp_ald ha (by omega) (by omega) hi (Or.inr (Or.inl ⟨rfl, hd⟩)) (hkt _ _ _ _ hB)
def tr_bald (n : Nat) (lv : LV) (st : List Value) (M : Mem) (k : Kt) (_ : Qt) : Prop := pI st (fun i r => pA r (fun a r => mK M a / 1000000 = 3 ∧ vp_in i (mN M a) ∧ k n lv (.int (mI M (mK M a) a i.toNatClampNeg) :: r) M))
theorem ok_bald (hd : decode μ.2.1 pc = .ok (.baload, 1)) : TrOk D d μ pc (tr_bald (pc + 1)) := fun M0 lv st M kt Q hkt h => by
  obtain ⟨i, r1, rfl, hA⟩ := pI_e h
  obtain ⟨a, r2, rfl, ha, hi, hB⟩ := pA_e hA
  exact wp_ald ha (by omega) (by omega) hi (Or.inr (Or.inr (Or.inl ⟨rfl, hd⟩))) (hkt _ _ _ _ hB)
def tr_aald (n t : Nat) (lv : LV) (st : List Value) (M : Mem) (k : Kt) (_ : Qt) : Prop := pI st (fun i r => pA r (fun a r => mK M a / 1000000 = t ∧ vp_in i (mN M a) ∧ k n lv (va_rf (mR M (mK M a) a i.toNatClampNeg) :: r) M))
theorem ok_aald {t : Nat} (h4 : 4 ≤ t) (h7 : t ≤ 7) (hd : decode μ.2.1 pc = .ok (.aaload, 1)) : TrOk D d μ pc (tr_aald (pc + 1) t) := fun M0 lv st M kt Q hkt h => by
  obtain ⟨i, r1, rfl, hA⟩ := pI_e h
  obtain ⟨a, r2, rfl, ha, hi, hB⟩ := pA_e hA
  refine wp_ald ha (by omega) h7 hi (Or.inr (Or.inr (Or.inr ⟨h4, hd⟩))) ?_
  rw [fv_t h4]
  exact hkt _ _ _ _ hB
def tr_alen (n : Nat) (lv : LV) (st : List Value) (M : Mem) (k : Kt) (_ : Qt) : Prop := pA st (fun a r => 1 ≤ mK M a / 1000000 ∧ mK M a / 1000000 ≤ 7 ∧ k n lv (.int (nI (mN M a)) :: r) M)
theorem ok_alen (hd : decode μ.2.1 pc = .ok (.arraylength, 1)) : TrOk D d μ pc (tr_alen (pc + 1)) := fun M0 lv st M kt Q hkt h => by
  obtain ⟨a, r2, rfl, h1, h7, hB⟩ := pA_e h
  refine wp_step (fun {p l e R s m args below meth c H locs cells slots Qw ls} C hH hll _ _ kk => ?_) (hkt _ _ _ _ hB)
  have hr := (hH.2.1 a (by omega)).row rfl h1
  have hA := (C.2.2.2.2.2.1.2.1 _ h1 h7).1 (mN M a) (fun j => fv (ety (mK M a / 1000000)) M (mK M a) a j)
  exact W.alen (n := nI (mN M a)) C.1 C.2.1 hr hA (by rw [arrV_size]; rfl) rfl rfl hd (kk _ hll)
/-- a row's place is written -/
theorem wp_ast {M0 M M1 : Mem} {lv : LV} {rest : List Value} {Q : Qt} {a t : Nat} {i : Int32} {v : Value} (ht : mK M a / 1000000 = t) (h1 : 1 ≤ t) (h7 : t ≤ 7) (hi : vp_in i (mN M a))
    (hd : (t = 1 ∧ (∃ x, v = .int x) ∧ decode μ.2.1 pc = .ok (.iastore, 1)) ∨ (t = 2 ∧ (∃ x, v = .long x) ∧ decode μ.2.1 pc = .ok (.lastore, 1)) ∨ (t = 3 ∧ (v = .int 0 ∨ v = .int 1) ∧ decode μ.2.1 pc = .ok (.bastore, 1)) ∨ (4 ≤ t ∧ isR v ∧ (∀ b, v = .ref b → mK M b = eci t + 1) ∧ decode μ.2.1 pc = .ok (.aastore, 1)))
    (hE : Ext M M1) (hK1 : mK M1 = mK M) (hN1 : mN M1 = mN M) (hs : mS M1 = mS M) (hu : mU M1 = mU M) (hI : ∀ q, q ≠ a → ∀ k i, mI M1 k q i = mI M k q i) (hL : ∀ q, q ≠ a → ∀ k i, mL M1 k q i = mL M k q i) (hR : ∀ q, q ≠ a → ∀ k i, mR M1 k q i = mR M k q i)
    (hv : ∀ j, updV (fun j => fv (ety t) M (mK M a) a j) i.toNatClampNeg v j = fv (ety t) M1 (mK M a) a j)
    (kk : wp D d μ M0 M1 (pc + 1) lv rest Q) : wp D d μ M0 M pc lv (v :: .int i :: .ref a :: rest) Q := by
  have ha0 : mK M a ≠ 0 := by omega
  refine wp_write (a := a) ha0 hE hs hu (fun {p l e R s m args below meth c H locs cells slots Qw ls} C hH kk => ?_) kk
  have hr := (hH.2.1 a ha0).row ht h1
  obtain ⟨hA0, hRA⟩ := C.2.2.2.2.2.1.2.1 t h1 h7
  have hA := hA0 (mN M a) (fun j => fv (ety t) M (mK M a) a j)
  have hin : ¬ (i < 0 ∨ (arrV (D.2.2 t) (mN M a) (fun j => fv (ety t) M (mK M a) a j)).slots.size ≤ i.toNatClampNeg) := by rw [arrV_size]; exact hi
  have fin : ∀ H' : Heap, H'[a]? = some ((arrV (D.2.2 t) (mN M a) (fun j => fv (ety t) M (mK M a) a j)).setSlot i.toNatClampNeg v) → H'.size = H.size → (∀ q, q ≠ a → H'[q]? = H[q]?) → Holds D H' M1 := by
    intro H' e1 e2 e3
    refine hH.set ha0 e2 e3 hK1 hN1 hs hI hL hR (HoldsAt.ofRow (by rw [hK1]; exact ht) h1 ?_)
    rw [e1, arrV_store, hK1, hN1]
    congr 2
    funext j
    exact hv j
  rcases hd with ⟨rfl, ⟨x, rfl⟩, hd⟩ | ⟨rfl, ⟨x, rfl⟩, hd⟩ | ⟨rfl, hx, hd⟩ | ⟨h4, hx, hb, hd⟩
  · exact W.iast C.1 C.2.1 hr hA (fun q => by cases q) hin rfl rfl hd fun H' e1 e2 e3 => kk H' _ e2 e3 (fin H' e1 e2 e3)
  · exact W.last C.1 C.2.1 hr hA (fun q => by cases q) hin rfl rfl hd fun H' e1 e2 e3 => kk H' _ e2 e3 (fin H' e1 e2 e3)
  · rcases hx with rfl | rfl
    · exact W.zast C.1 C.2.1 hr hA (fun q => by cases q) hin rfl rfl hd fun H' e1 e2 e3 => kk H' _ e2 e3 (fin H' e1 e2 e3)
    · exact W.zast C.1 C.2.1 hr hA (fun q => by cases q) hin rfl rfl hd fun H' e1 e2 e3 => kk H' _ e2 e3 (fin H' e1 e2 e3)
  · have hety := ety_o h4
    have hcl : ∃ r : vw_C, vwCl[eci t]? = some r ∧ r.1 = enm t := by
      rcases (show t = 4 ∨ t = 5 ∨ t = 6 ∨ t = 7 by omega) with rfl | rfl | rfl | rfl <;> exact ⟨_, rfl, rfl⟩
    rw [hety] at hRA
    rcases hx with rfl | ⟨b, rfl⟩
    · exact va_WaastN (C := enm t) C.1 C.2.1 hr (by rw [hety] at hA ⊢; exact hA) (fun q => by cases q) hin rfl rfl hd fun H' e1 e2 e3 => kk H' _ e2 e3 (fin H' e1 e2 e3)
    · obtain ⟨r, hc, hnm⟩ := hcl
      have hkb := hb b rfl
      obtain ⟨cellV, g1, g2, g3, -⟩ := (hH.2.1 b (by rw [hkb]; omega)).obj hc hkb
      obtain ⟨kA, comp, k1, k2, k3, -⟩ := hRA
      have hcls := (C.2.2.2.2.2.1.1 _ _ hc).2
      have hcomp : comp = D.1 (eci t) := by rw [hnm] at hcls; exact Option.some.inj (k3.symm.trans hcls.1)
      subst hcomp
      obtain ⟨kC, hkC, -⟩ := hcls.2
      exact W.aast C.1 C.2.1 hr (fun q h => by cases h) (fun h => by cases h) k1 k2 rfl hkC ⟨fun q => hi (Or.inl q), by rw [arrV_size]; exact ix_lt hi⟩ g1 (fun q h => by rw [g3] at h; cases h) (by rw [g2]; exact hkC) (by rw [g2]; exact va_assign hcls) rfl rfl hd fun H' e1 e2 e3 => kk H' _ e2 e3 (fin H' e1 e2 e3)
def tr_iast (n : Nat) (lv : LV) (st : List Value) (M : Mem) (k : Kt) (_ : Qt) : Prop := pI st (fun x r => pI r (fun i r => pA r (fun a r => mK M a / 1000000 = 1 ∧ vp_in i (mN M a) ∧ k n lv r (sI M (mK M a) a i.toNatClampNeg x))))
theorem ok_iast (hd : decode μ.2.1 pc = .ok (.iastore, 1)) : TrOk D d μ pc (tr_iast (pc + 1)) := fun M0 lv st M kt Q hkt h => by
  obtain ⟨x, r0, rfl, hZ⟩ := pI_e h
  obtain ⟨i, r1, rfl, hA⟩ := pI_e hZ
  obtain ⟨a, r2, rfl, ha, hi, hB⟩ := pA_e hA
  refine wp_ast ha (by omega) (by omega) hi (Or.inl ⟨rfl, ⟨x, rfl⟩, hd⟩) Ext.sI rfl rfl rfl rfl (fun q hq k i => ?_) (fun _ _ _ _ => rfl) (fun _ _ _ _ => rfl) (fun j => ?_) (hkt _ _ _ _ hB)
  · rw [mI_sI, if_neg (by simp [hq])]
  · unfold updV
    by_cases e : j = i.toNatClampNeg
    · subst e; simp [fv, ety, mI_sI]
    · rw [if_neg e, fv_sI (by simp [e])]
def tr_bast (n : Nat) (lv : LV) (st : List Value) (M : Mem) (k : Kt) (_ : Qt) : Prop := pI st (fun x r => pI r (fun i r => pA r (fun a r => mK M a / 1000000 = 3 ∧ (x = 0 ∨ x = 1) ∧ vp_in i (mN M a) ∧ k n lv r (sI M (mK M a) a i.toNatClampNeg x))))
theorem ok_bast (hd : decode μ.2.1 pc = .ok (.bastore, 1)) : TrOk D d μ pc (tr_bast (pc + 1)) := fun M0 lv st M kt Q hkt h => by
  obtain ⟨x, r0, rfl, hZ⟩ := pI_e h
  obtain ⟨i, r1, rfl, hA⟩ := pI_e hZ
  obtain ⟨a, r2, rfl, ha, hx, hi, hB⟩ := pA_e hA
  refine wp_ast ha (by omega) (by omega) hi (Or.inr (Or.inr (Or.inl ⟨rfl, by rcases hx with rfl | rfl <;> simp, hd⟩))) Ext.sI rfl rfl rfl rfl (fun q hq k i => ?_) (fun _ _ _ _ => rfl) (fun _ _ _ _ => rfl) (fun j => ?_) (hkt _ _ _ _ hB)
  · rw [mI_sI, if_neg (by simp [hq])]
  · unfold updV
    by_cases e : j = i.toNatClampNeg
    · subst e; simp [fv, ety, mI_sI]
    · rw [if_neg e, fv_sI (by simp [e])]
def tr_last (n : Nat) (lv : LV) (st : List Value) (M : Mem) (k : Kt) (_ : Qt) : Prop := pL st (fun x r => pI r (fun i r => pA r (fun a r => mK M a / 1000000 = 2 ∧ vp_in i (mN M a) ∧ k n lv r (sL M (mK M a) a i.toNatClampNeg x))))
theorem ok_last (hd : decode μ.2.1 pc = .ok (.lastore, 1)) : TrOk D d μ pc (tr_last (pc + 1)) := fun M0 lv st M kt Q hkt h => by
  obtain ⟨x, r0, rfl, hZ⟩ := pL_e h
  obtain ⟨i, r1, rfl, hA⟩ := pI_e hZ
  obtain ⟨a, r2, rfl, ha, hi, hB⟩ := pA_e hA
  refine wp_ast ha (by omega) (by omega) hi (Or.inr (Or.inl ⟨rfl, ⟨x, rfl⟩, hd⟩)) Ext.sL rfl rfl rfl rfl (fun _ _ _ _ => rfl) (fun q hq k i => ?_) (fun _ _ _ _ => rfl) (fun j => ?_) (hkt _ _ _ _ hB)
  · rw [mL_sL, if_neg (by simp [hq])]
  · unfold updV
    by_cases e : j = i.toNatClampNeg
    · subst e; simp [fv, ety, mL_sL]
    · rw [if_neg e, fv_sL (by simp [e])]
def tr_aast (n t : Nat) (lv : LV) (st : List Value) (M : Mem) (k : Kt) (_ : Qt) : Prop := pV st (fun x r => pI r (fun i r => pA r (fun a r => isR x ∧ mK M a / 1000000 = t ∧ (∀ b, x = .ref b → mK M b = eci t + 1) ∧ vp_in i (mN M a) ∧ k n lv r (sR M (mK M a) a i.toNatClampNeg (rfo x)))))
theorem ok_aast {t : Nat} (h4 : 4 ≤ t) (h7 : t ≤ 7) (hd : decode μ.2.1 pc = .ok (.aastore, 1)) : TrOk D d μ pc (tr_aast (pc + 1) t) := fun M0 lv st M kt Q hkt h => by
  obtain ⟨x, r0, rfl, hZ⟩ := pV_e h
  obtain ⟨i, r1, rfl, hA⟩ := pI_e hZ
  obtain ⟨a, r2, rfl, hx, ha, hb, hi, hB⟩ := pA_e hA
  refine wp_ast ha (by omega) (by omega) hi (Or.inr (Or.inr (Or.inr ⟨h4, hx, hb, hd⟩))) Ext.sR rfl rfl rfl rfl (fun _ _ _ _ => rfl) (fun _ _ _ _ => rfl) (fun q hq k i => ?_) (fun j => ?_) (hkt _ _ _ _ hB)
  · rw [mR_sR, if_neg (by simp [hq])]
  · unfold updV
    by_cases e : j = i.toNatClampNeg
    · subst e; rw [if_pos rfl, fv_t h4, mR_sR, if_pos ⟨rfl, rfl, rfl⟩, rf_rfo hx]
    · rw [if_neg e, fv_sR (by simp [e])]
/-- new rows, new objects -/
theorem fv_clean {ty : FieldType} {M : Mem} (h : Clean M) {c n u k a i : Nat} (ha : mS M ≤ a) : fv ty (nw M c n u) k a i = defaultValue ty := by
  obtain ⟨-, h2⟩ := h a ha
  obtain ⟨h3, h4, h5⟩ := h2 k i
  cases ty <;> simp [fv, defaultValue, mI_nw, mL_nw, mR_nw, h3, h4, h5, va_rf]
def tr_newa (n col N : Nat) (x0 : Int32) (lv : LV) (st : List Value) (M : Mem) (k : Kt) (_ : Qt) : Prop := pI st (fun x r => x = x0 ∧ k n lv (.ref (mS M) :: r) (nw M col N N))
theorem ok_newa {at' : ArrayType} {t col N : Nat} {x0 : Int32} (hd : decode μ.2.1 pc = .ok (.newarray at', 2)) (hty : newarray.typeOf at' = ety t) (h13 : t = 1 ∨ t = 2 ∨ t = 3) (hw : Cond.arrayClass (ety t) ∈ gW) (hcol : col / 1000000 = t) (h0 : ¬ x0 < 0) (hN : x0.toNatClampNeg = N) (hN2 : N ≤ 4000) : TrOk D d μ pc (tr_newa (pc + 2) col N x0) := fun M0 lv st M kt Q hkt h => by
  obtain ⟨x, r0, rfl, rfl, hZ⟩ := pI_e h
  refine wp_make (fun {p l e R s m args below meth c H locs cells slots Qw ls} C hH hc hs kk => ?_) (hkt _ _ _ _ hZ)
  refine va_newaK C.1 C.2.1 (by rw [hty]; exact C.2.2.2.2.1 _ hw) rfl hd rfl h0 hN ?_ hc hs hH.1 (fun H' cA e1 z1 o1 hAr hNm => ?_)
  · rw [hty]; rcases h13 with rfl | rfl | rfl
    · show N * 4 ≤ _; omega
    · show N * 8 ≤ _; omega
    · show N * 1 ≤ _; omega
  · have hcA : cA = D.2.2 t := by
      have := (C.2.2.2.2.2.1.2.1 t (by omega) (by omega)).2
      rw [hty] at hNm
      rcases h13 with rfl | rfl | rfl <;> exact Option.some.inj (hNm.symm.trans this)
    subst hcA
    refine kk H' (by rw [z1, hH.1]) (fun q hq => o1 q (by rw [← hH.1]; exact hq)) (HoldsAt.ofRow (t := t) (by rw [mK_nw, if_pos rfl]; exact hcol) (by omega) ?_)
    rw [e1, mN_nw, if_pos rfl, hty]
    congr 2
    funext j
    exact (fv_clean hH.2.2 (Nat.le_refl _)).symm
def tr_anew (n col N : Nat) (x0 : Int32) (lv : LV) (st : List Value) (M : Mem) (k : Kt) (_ : Qt) : Prop := pI st (fun x r => x = x0 ∧ k n lv (.ref (mS M) :: r) (nw M col N N))
theorem ok_anew {idx t col N : Nat} {x0 : Int32} (hd : decode μ.2.1 pc = .ok (.anewarray idx, 3)) (h4 : 4 ≤ t) (h7 : t ≤ 7) (hw : Cond.classLink μ.1.cls idx (enm t) ∈ gW) (hcol : col / 1000000 = t) (h0 : ¬ x0 < 0) (hN : x0.toNatClampNeg = N) (hN2 : N ≤ 4000) : TrOk D d μ pc (tr_anew (pc + 3) col N x0) := fun M0 lv st M kt Q hkt h => by
  obtain ⟨x, r0, rfl, rfl, hZ⟩ := pI_e h
  subst hN
  refine wp_make (fun {p l e R s m args below meth c H locs cells slots Qw ls} C hH hc hs kk => ?_) (hkt _ _ _ _ hZ)
  have hety := ety_o h4
  refine W.anew C.1 C.2.1 C.2.2.2.1 (C.2.2.2.2.1 _ hw) (va_AO.use (C.2.2.2.2.2.1.2.2.2 t h4 h7)) rfl hd rfl h0 (by omega) hc hs (fun cA kA comp f1 f2 f3 f4 => ?_)
  have hcA : cA = D.2.2 t := by
    have := (C.2.2.2.2.2.1.2.1 t (by omega) (by omega)).2
    rw [hety] at this
    obtain ⟨_, _, _, _, _, g4⟩ := this
    exact Option.some.inj (f1.symm.trans g4)
  subst hcA
  rw [hH.1]
  refine kk _ (by simp) (fun q hq => by rw [Array.getElem?_push, if_neg (Nat.ne_of_lt hq)]) (HoldsAt.ofRow (t := t) (by rw [mK_nw, if_pos rfl]; exact hcol) (by omega) ?_)
  rw [← hH.1, Array.getElem?_push_size, arrV_new, mN_nw, if_pos hH.1]
  congr 2
  funext j
  rw [hH.1, fv_clean hH.2.2 (Nat.le_refl _), hety]
  rfl
def tr_new (n c N : Nat) (lv : LV) (st : List Value) (M : Mem) (k : Kt) (_ : Qt) : Prop := k n lv (.ref (mS M) :: st) (nw M c 0 N)
theorem ok_new {idx ci : Nat} {r : vw_C} (hd : decode μ.2.1 pc = .ok (.new idx, 3)) (hc : vwCl[ci]? = some r) (h1 : Cond.classLink μ.1.cls idx r.1 ∈ gW) (h2 : Cond.instantiable r.1 r.2.2 ∈ gW) (h3 : Cond.initialized r.1 ∈ gW) : TrOk D d μ pc (tr_new (pc + 3) (ci + 1) r.2.2) := fun M0 lv st M kt Q hkt h => by
  refine wp_make (fun {p l e R s m args below meth c H locs cells slots Qw ls} C hH hcl hs kk => ?_) (hkt _ _ _ _ h)
  have hKn := C.2.2.2.2.2.1.1 ci _ hc
  have hts := C.2.2.2.2.1
  refine W.newcK C.1 C.2.1 C.2.2.2.1 (hts _ h1) (hts _ h2) (hts _ h3) rfl hd hcl hs hKn.2.1 hH.1 (fun H' kC hkC e1 z1 o1 => ?_)
  refine kk H' (by rw [z1, hH.1]) (fun q hq => o1 q (by rw [← hH.1]; exact hq)) (HoldsAt.ofObj hc (by rw [mK_nw, if_pos rfl]) ?_)
  exact (u_born (tyG ci) hts (cf_ws ci r hc) hKn hkC e1 (cf_ty ci r hc).1).to (fun k _ => (fv_clean hH.2.2 (Nat.le_refl _)).symm)
end OK3
