/-! The start: the tables' words give the classes; both desks are made; the law -/
def Z0 (S : Nat) : Mem := (fun _ => 0, fun _ => 0, fun _ _ _ => 0, fun _ _ _ => 0, fun _ _ _ => none, S, 0)
theorem KD_ex {s : State} {m : MethodId} {b : Nat} (hts : ∀ w ∈ lw_tbl, w.before #[Value.ref b] s = true) : ∃ D : DD, KD D s := by
  have hg : ∀ w ∈ gW, w.before #[Value.ref b] s = true := fun w hw => hts w (List.mem_filter.mp hw).1
  have hin : ∀ (c : Nat) (q : vw_C), vwCl[c]? = some q → Cond.instantiable q.1 q.2.2 ∈ lw_tbl := by
    intro c q hq
    exact (by decide +kernel : ∀ r ∈ vwCl.map (fun q => Cond.instantiable q.1 q.2.2), r ∈ lw_tbl) _ (List.mem_map.mpr ⟨q, List.mem_of_getElem? hq, rfl⟩)
  have h1 : ∀ c : Nat, ∃ z : ClassId × (Nat → Nat), ∀ q, vwCl[c]? = some q → u_Kn s q.1 q.2.1 q.2.2 z.1 z.2 := by
    intro c
    cases hc : vwCl[c]? with
    | none => exact ⟨(m.cls, fun _ => 0), fun q h => by cases h⟩
    | some r =>
      obtain ⟨cC, iS, hK⟩ := u_known (C := r.1) (T := r.2.1) (N := r.2.2) (n := r.2.2) hg (cf_ws c r hc) (hts _ (hin c r hc))
      exact ⟨(cC, iS), fun q h => by cases h; exact hK⟩
  obtain ⟨f, hf⟩ := Classical.axiomOfChoice h1
  have pa : ∀ ty, Cond.arrayClass ty ∈ lw_tbl → (ty = .int ∨ ty = .long ∨ ty = .boolean) → ∃ cA, ArrOfT s cA ty ∧ va_RA s cA ty := by
    intro ty hw ht
    obtain ⟨cA, kA, comp, g1, g2, g3⟩ := Cond.arrayClass_spec (hts _ hw)
    refine ⟨cA, fun N z => ⟨fun k h => (by cases h), kA, g2, comp, g3⟩, ?_⟩
    rcases ht with rfl | rfl | rfl <;> exact g1
  have po : ∀ C, Cond.arrayOver (.object C) ∈ lw_tbl → ∃ cA, ArrOfT s cA (.object C) ∧ va_RA s cA (.object C) := by
    intro C hw
    obtain ⟨comp, cA, kA, g1, g2, g3, g4, g5⟩ := Cond.arrayOver_spec (hts _ hw)
    exact ⟨cA, fun N z => ⟨fun k h => (by cases h), kA, g3, comp, g4⟩, kA, comp, g3, g4, g1, g5⟩
  have h2 : ∀ t : Nat, ∃ cA : ClassId, 1 ≤ t → t ≤ 7 → ArrOfT s cA (ety t) ∧ va_RA s cA (ety t) := by
    intro t
    by_cases ht : 1 ≤ t ∧ t ≤ 7
    · rcases (by omega : t = 1 ∨ t = 2 ∨ t = 3 ∨ t = 4 ∨ t = 5 ∨ t = 6 ∨ t = 7) with rfl | rfl | rfl | rfl | rfl | rfl | rfl
      · obtain ⟨cA, h⟩ := pa .int (List.mem_of_getElem? (i := 191) (by decide +kernel)) (Or.inl rfl); exact ⟨cA, fun _ _ => h⟩
      · obtain ⟨cA, h⟩ := pa .long (List.mem_of_getElem? (i := 131) (by decide +kernel)) (Or.inr (Or.inl rfl)); exact ⟨cA, fun _ _ => h⟩
      · obtain ⟨cA, h⟩ := pa .boolean (List.mem_of_getElem? (i := 107) (by decide +kernel)) (Or.inr (Or.inr rfl)); exact ⟨cA, fun _ _ => h⟩
      · obtain ⟨cA, h⟩ := po RX1 (List.mem_of_getElem? (i := 214) (by decide +kernel)); exact ⟨cA, fun _ _ => h⟩
      · obtain ⟨cA, h⟩ := po RX3 (List.mem_of_getElem? (i := 63) (by decide +kernel)); exact ⟨cA, fun _ _ => h⟩
      · obtain ⟨cA, h⟩ := po RX5 (List.mem_of_getElem? (i := 79) (by decide +kernel)); exact ⟨cA, fun _ _ => h⟩
      · obtain ⟨cA, h⟩ := po RX9 (List.mem_of_getElem? (i := 109) (by decide +kernel)); exact ⟨cA, fun _ _ => h⟩
    · exact ⟨m.cls, fun h1 h2 => absurd ⟨h1, h2⟩ ht⟩
  obtain ⟨f2, hf2⟩ := Classical.axiomOfChoice h2
  refine ⟨(fun c => (f c).1, fun c => (f c).2, f2), fun c q hq => hf c q hq, fun t h1 h2 => hf2 t h1 h2, fun w hw => ?_, fun t h4 h7 => ?_⟩
  · have hl : w ∈ lw_tbl := (by decide +kernel : ∀ w ∈ nestW, w ∈ lw_tbl) w hw
    obtain ⟨a, i, y, hh, rfl⟩ := nestW_form w hw
    exact va_tabs (by rfl) rfl (hts _ hl)
  · rcases (by omega : t = 4 ∨ t = 5 ∨ t = 6 ∨ t = 7) with rfl | rfl | rfl | rfl
    · exact va_AO.of (hts _ (List.mem_of_getElem? (i := 214) (by decide +kernel)))
    · exact va_AO.of (hts _ (List.mem_of_getElem? (i := 63) (by decide +kernel)))
    · exact va_AO.of (hts _ (List.mem_of_getElem? (i := 79) (by decide +kernel)))
    · exact va_AO.of (hts _ (List.mem_of_getElem? (i := 109) (by decide +kernel)))
/-- both desks as they are made -/
theorem Rel_0 {S : Nat} {M1 M2 : Mem} {x h : Nat} (hP : P11 (nw (Z0 S) 12 0 6) x M1) (H : RM M2 h) (F : Fz kri [] krr (nw M1 13 0 55) M2) (hc : Cln M2) (hl : ∀ j, j < 8 → mI M2 1089148 (h + 17) j = -4) (hv : mI M2 1246 h 0 = -4) : Rel M2 x h (mS M2) (mU M2) := by
  obtain ⟨S1, F1, c1, s1, u1, v1, l1⟩ := hP
  have zI : ∀ k, k ∉ kti → k ∉ kri → ∀ q i, mI M2 k q i = 0 := fun k h1 h2 q i => by
    have e1 := F.2.1 k h2
    have e2 := F1.2.1 k h1
    rw [e1]
    show mI M1 k q i = 0
    rw [e2]; rfl
  have zL : ∀ k q i, mL M2 k q i = 0 := fun k q i => by
    have e1 := F.2.2.1 k List.not_mem_nil
    have e2 := F1.2.2.1 k List.not_mem_nil
    rw [e1]
    show mL M1 k q i = 0
    rw [e2]; rfl
  have zR : ∀ k, k ∉ ktr → k ∉ krr → ∀ q i, mR M2 k q i = none := fun k h1 h2 q i => by
    have e1 := F.2.2.2 k h2
    have e2 := F1.2.2.2 k h1
    rw [e1]
    show mR M1 k q i = none
    rw [e2]; rfl
  have kI0 : ∀ k, kc k ∉ kti → kc k ∉ kri → ∀ i, kI (core M2 h) k i = 0 := fun k h1 h2 i => zI (kc k) h1 h2 _ _
  have kL0 : ∀ k i, kL (core M2 h) k i = 0 := fun k i => zL _ _ _
  have SH2 : SH M2 x := SH_fz F (by decide) (by decide) (SH_nw c1 S1)
  have c46 : kI (core M2 h) 46 0 = -4 := hv
  have c19 : ∀ t, t < 8 → kI (core M2 h) 19 t = -4 := fun t ht => hl t ht
  have g := fun k (h : k ∉ kti) (h2 : k ∉ kri) => zI k h h2
  refine ⟨H, 0, fun _ => 0, fun _ => 0, 0, 0, fun _ => 0, fun _ => [], 0, 0, 0, 0, ⟨⟨Nat.le_refl _, Nat.le_refl _, hc⟩, SH2, ?_, ?_, ?_, ?_, ?_, ?_⟩, ?_, ?_, ?_, ?_, by decide⟩
  · exact ⟨by decide, zI _ (by decide) (by decide) _ _, kI0 0 (by decide) (by decide) 0, fun i hi => absurd hi (by omega)⟩
  · exact ⟨by decide, zI _ (by decide) (by decide) _ _, kI0 5 (by decide) (by decide) 0, fun i hi => absurd hi (by omega)⟩
  · intro p hp
    exact ⟨zR _ (by decide) (by decide) _ _, List.Pairwise.nil, fun l => ⟨fun q => absurd q List.not_mem_nil, fun q => absurd q.1 (by omega)⟩⟩
  · exact ⟨by decide, zI _ (by decide) (by decide) _ _, kI0 3 (by decide) (by decide) 0, fun s hs => absurd hs (by omega), zI _ (by decide) (by decide) _ _, zI _ (by decide) (by decide) _ _⟩
  · intro t ht
    have hl1 : mI M2 901 (x + 21 + 2 * t) 0 = -1 := by
      rw [F.2.1 901 (by decide)]; exact l1 t ht
    exact ⟨Or.inl ⟨hl1, c19 t ht, kI0 20 (by decide) (by decide) t⟩, 0, by decide, zI _ (by decide) (by decide) _ _, kI0 20 (by decide) (by decide) t, fun i hi => absurd hi (by omega)⟩
  · exact ⟨0, 0, by decide, by decide, zI _ (by decide) (by decide) _ _, kI0 52 (by decide) (by decide) 0, zI _ (by decide) (by decide) _ _, fun j hj => absurd hj (by omega)⟩
  · exact ⟨zI _ (by decide) (by decide) _ _, kI0 40 (by decide) (by decide) 0, by decide, (zI _ (by decide) (by decide) _ _).trans (kI0 41 (by decide) (by decide) 0).symm, zI _ (by decide) (by decide) _ _, kI0 42 (by decide) (by decide) 0, by decide, fun i hi => absurd hi (by omega), zI _ (by decide) (by decide) _ _, kI0 43 (by decide) (by decide) 0, by decide, fun i hi => absurd hi (by omega), (zI _ (by decide) (by decide) _ _).trans (kI0 44 (by decide) (by decide) 0).symm, (zI _ (by decide) (by decide) _ _).trans (kI0 45 (by decide) (by decide) 0).symm⟩
  · have hv1 : mI M2 710 (x + 12) 0 = -4 := by
      rw [F.2.1 710 (by decide)]; exact v1
    exact ⟨hv1.trans c46.symm, (zL _ _ _).trans (kL0 47 0).symm, Or.inl ⟨c46, kI0 39 (by decide) (by decide) 0⟩⟩
  · exact zI _ (by decide) (by decide) _ _
  · exact zI _ (by decide) (by decide) _ _
set_option maxRecDepth 20000 in
theorem y_start {X : LX} {S : Nat} (hX : LC X) (h0 : X0 X = Z0 S) (hL : XL X ≤ 3072) : wn X (Z0 S) 0 [(0, .ref (Xb X))] [] := by
  refine runV (tbk_L (dd := 100) hX (by decide)) 60 ?_
  simp -implicitDefEqProofs +decide only [go_0, pI_i, pL_i, pA_i, pA_s, pV_i, oI_i, oL_i, oV_i, lk, rm1, rm2, isR_rf, isR_ref, isR_null, rfo_rf, rfo_ref, rfo_null, rf_some, rf_none, rf_eq_null, rf_eq_ref, ↓nl_n, ↓nl_r, nl_rf, cat_i, cat_l, cat_r, cat_n, cat_rf, lv_args, pN_0, pN_s, tr_ic, tr_lc, tr_null, tr_iload, tr_lload, tr_aload, tr_istore, tr_lstore, tr_astore, tr_iinc, tr_iadd, tr_isub, tr_imul, tr_iand, tr_irem, tr_ladd, tr_lsub, tr_land, tr_lor, tr_lshl, tr_ldiv, tr_lrem, tr_i2l, tr_l2i, tr_i2b, tr_lcmp, tr_dup, tr_dup2, tr_pop, tr_goto, tr_ifeq, tr_ifne, tr_iflt, tr_ifge, tr_ifgt, tr_ifle, tr_iceq, tr_icne, tr_iclt, tr_icge, tr_icgt, tr_icle, tr_ifnull, tr_ifnonnull, tr_sw, tr_getI, tr_getL, tr_getR, tr_putI, tr_putZ, tr_putL, tr_putR, tr_iald, tr_lald, tr_bald, tr_aald, tr_alen, tr_iast, tr_bast, tr_last, tr_aast, tr_newa, tr_anew, tr_new, tr_callV, tr_callS, tr_callI, tr_obj, tr_iret, tr_zret, tr_lret, tr_aret, tr_ret, Nat.reduceAdd, Nat.reduceMul, Nat.reduceDiv, Nat.reduceEqDiff, Nat.reduceLT, Nat.reduceLeDiff, ↓reduceIte, true_and, and_true, true_or, or_true, List.length_nil, List.length_cons, List.nil_append, List.cons_append, Option.toList_some, Option.toList_none, and_self, or_false, false_or, false_and, and_false, imp_self, forall_const, Nat.one_ne_zero, Nat.succ_ne_self, not_true_eq_false, not_false_eq_true, reduceCtorEq, Nat.add_eq_right, Nat.add_eq_left, Nat.add_left_cancel_iff, Nat.zero_add, Int32.reduceLT, Int32.reduceLE, Int32.reduceAdd, Int32.reduceSub, Int32.reduceMul, lg_cmp_ge, lg_cmp_le, lg_cmp_gt, lg_cmp_lt, lg_cmp_eq, i10, i01, eq_self, false_implies, true_implies, implies_true, go_1, tr_newB, tr_initB, a_L_0, a_L_3, a_L_4, a_L_7, a_L_8, a_L_11, a_L_12, a_L_15, a_L_16, a_L_17]
  have hz : mS (Z0 S) = S := rfl
  have cz : Cln (nw (Z0 S) 12 0 6) := cl_nw (fun a _ => ⟨rfl, fun k i _ => ⟨rfl, rfl, rfl⟩⟩)
  refine ⟨⟨by rw [h0]; show S + 1 - S ≤ _; omega, by rw [h0]; show 0 + 6 - 0 ≤ _; omega⟩, ?_⟩
  refine c_xini (D := XD X) (d := 96) (x := S) (M := nw (Z0 S) 12 0 6) (by rw [mK_nw, hz, if_pos rfl]) (by rw [mN_nw, hz, if_pos rfl]) rfl cz (fun M1 hP => ?_)
  have hP' := hP
  obtain ⟨S1, F1, c1, s1, u1, v1, l1⟩ := hP
  have u1' : mU M1 = 6 + U11 := u1
  refine ⟨⟨by rw [h0, s1]; show S + 49 - S ≤ _; omega, by rw [h0, u1']; show 6 + U11 - 0 ≤ _; decide⟩, ?_⟩
  simp -implicitDefEqProofs +decide only [go_0, pI_i, pL_i, pA_i, pA_s, pV_i, oI_i, oL_i, oV_i, lk, rm1, rm2, isR_rf, isR_ref, isR_null, rfo_rf, rfo_ref, rfo_null, rf_some, rf_none, rf_eq_null, rf_eq_ref, ↓nl_n, ↓nl_r, nl_rf, cat_i, cat_l, cat_r, cat_n, cat_rf, lv_args, pN_0, pN_s, tr_ic, tr_lc, tr_null, tr_iload, tr_lload, tr_aload, tr_istore, tr_lstore, tr_astore, tr_iinc, tr_iadd, tr_isub, tr_imul, tr_iand, tr_irem, tr_ladd, tr_lsub, tr_land, tr_lor, tr_lshl, tr_ldiv, tr_lrem, tr_i2l, tr_l2i, tr_i2b, tr_lcmp, tr_dup, tr_dup2, tr_pop, tr_goto, tr_ifeq, tr_ifne, tr_iflt, tr_ifge, tr_ifgt, tr_ifle, tr_iceq, tr_icne, tr_iclt, tr_icge, tr_icgt, tr_icle, tr_ifnull, tr_ifnonnull, tr_sw, tr_getI, tr_getL, tr_getR, tr_putI, tr_putZ, tr_putL, tr_putR, tr_iald, tr_lald, tr_bald, tr_aald, tr_alen, tr_iast, tr_bast, tr_last, tr_aast, tr_newa, tr_anew, tr_new, tr_callV, tr_callS, tr_callI, tr_obj, tr_iret, tr_zret, tr_lret, tr_aret, tr_ret, Nat.reduceAdd, Nat.reduceMul, Nat.reduceDiv, Nat.reduceEqDiff, Nat.reduceLT, Nat.reduceLeDiff, ↓reduceIte, true_and, and_true, true_or, or_true, List.length_nil, List.length_cons, List.nil_append, List.cons_append, Option.toList_some, Option.toList_none, and_self, or_false, false_or, false_and, and_false, imp_self, forall_const, Nat.one_ne_zero, Nat.succ_ne_self, not_true_eq_false, not_false_eq_true, reduceCtorEq, Nat.add_eq_right, Nat.add_eq_left, Nat.add_left_cancel_iff, Nat.zero_add, Int32.reduceLT, Int32.reduceLE, Int32.reduceAdd, Int32.reduceSub, Int32.reduceMul, lg_cmp_ge, lg_cmp_le, lg_cmp_gt, lg_cmp_lt, lg_cmp_eq, i10, i01, eq_self, false_implies, true_implies, implies_true, go_1, tr_newB, tr_initB, a_L_0, a_L_3, a_L_4, a_L_7, a_L_8, a_L_11, a_L_12, a_L_15, a_L_16, a_L_17]
  have c2 : Cln (nw M1 13 0 55) := cl_nw c1
  refine ⟨⟨by rw [h0]; show mS M1 + 1 - S ≤ _; omega, by rw [h0]; show mU M1 + 55 - 0 ≤ _; rw [u1']; decide⟩, ?_⟩
  refine c_rini (D := XD X) (d := 99) (h := mS M1) (M := nw M1 13 0 55) (by rw [mK_nw, if_pos rfl]) (by rw [mN_nw, if_pos rfl]) rfl c2 (fun M2 H F c3 s3 u3 l3 v3 => ?_)
  have hR := Rel_0 hP' H F c3 l3 v3
  have u3' : mU M2 = 6 + U11 + 55 + U12 := by rw [u3]; show mU M1 + 55 + _ = _; rw [u1']; rfl
  refine ⟨⟨by rw [h0, s3]; show mS M1 + _ - S ≤ _; omega, by rw [h0, u3']; show 6 + U11 + 55 + U12 - 0 ≤ 7302250; decide⟩, ?_⟩
  simp -implicitDefEqProofs +decide only [go_0, pI_i, pL_i, pA_i, pA_s, pV_i, oI_i, oL_i, oV_i, lk, rm1, rm2, isR_rf, isR_ref, isR_null, rfo_rf, rfo_ref, rfo_null, rf_some, rf_none, rf_eq_null, rf_eq_ref, ↓nl_n, ↓nl_r, nl_rf, cat_i, cat_l, cat_r, cat_n, cat_rf, lv_args, pN_0, pN_s, tr_ic, tr_lc, tr_null, tr_iload, tr_lload, tr_aload, tr_istore, tr_lstore, tr_astore, tr_iinc, tr_iadd, tr_isub, tr_imul, tr_iand, tr_irem, tr_ladd, tr_lsub, tr_land, tr_lor, tr_lshl, tr_ldiv, tr_lrem, tr_i2l, tr_l2i, tr_i2b, tr_lcmp, tr_dup, tr_dup2, tr_pop, tr_goto, tr_ifeq, tr_ifne, tr_iflt, tr_ifge, tr_ifgt, tr_ifle, tr_iceq, tr_icne, tr_iclt, tr_icge, tr_icgt, tr_icle, tr_ifnull, tr_ifnonnull, tr_sw, tr_getI, tr_getL, tr_getR, tr_putI, tr_putZ, tr_putL, tr_putR, tr_iald, tr_lald, tr_bald, tr_aald, tr_alen, tr_iast, tr_bast, tr_last, tr_aast, tr_newa, tr_anew, tr_new, tr_callV, tr_callS, tr_callI, tr_obj, tr_iret, tr_zret, tr_lret, tr_aret, tr_ret, Nat.reduceAdd, Nat.reduceMul, Nat.reduceDiv, Nat.reduceEqDiff, Nat.reduceLT, Nat.reduceLeDiff, ↓reduceIte, true_and, and_true, true_or, or_true, List.length_nil, List.length_cons, List.nil_append, List.cons_append, Option.toList_some, Option.toList_none, and_self, or_false, false_or, false_and, and_false, imp_self, forall_const, Nat.one_ne_zero, Nat.succ_ne_self, not_true_eq_false, not_false_eq_true, reduceCtorEq, Nat.add_eq_right, Nat.add_eq_left, Nat.add_left_cancel_iff, Nat.zero_add, Int32.reduceLT, Int32.reduceLE, Int32.reduceAdd, Int32.reduceSub, Int32.reduceMul, lg_cmp_ge, lg_cmp_le, lg_cmp_gt, lg_cmp_lt, lg_cmp_eq, i10, i01, eq_self, false_implies, true_implies, implies_true, go_1, a_L_0, a_L_3, a_L_4, a_L_7, a_L_8, a_L_11, a_L_12, a_L_15, a_L_16, a_L_17]
  refine wn_sub hX ?_ (l_law hX hL (by rw [h0, s3]; show mS M1 + _ + 840 ≤ S + _; omega) (by rw [h0, u3']; show 6 + U11 + 55 + U12 + 12400 ≤ 0 + 7302250; decide) 512 0 M2 (by omega) (by omega) hR)
  intro q hq
  simp only [List.mem_cons, List.not_mem_nil, or_false] at hq ⊢
  rcases hq with rfl | rfl | rfl | rfl <;> simp [nI_0, hz]
set_option maxHeartbeats 4000000 in
set_option maxRecDepth 20000 in
theorem whole_start {p : Program} {e : Env} {s : State} {m : MethodId} {below : List Frame} {meth : Method} {c : Code} (l : Launch) {b L : Nat} {xs : Nat → Int32} (hL : L ≤ 3072) (C0 : lw_At p s m meth c b L xs) : W p l e room_1 s m #[Value.ref b] below meth c s.heap [] 0 0 (lw_Z below #[Value.ref b] s) (entryFrame m ([Value.ref b] : List Value).toArray 4) := by
  obtain ⟨hx, hb, hr, hml, hown, hts, hX, hbl, hlocks, hgv⟩ := C0
  obtain ⟨D, hK⟩ := KD_ex (m := m) hts
  have hC : LC (p, l, e, s, m, below, meth, c, b, L, xs, Z0 s.heap.size, D) := ⟨⟨hx, hb, hml, hown, fun w hw => hts w (List.mem_filter.mp hw).1⟩, hK, hlocks, hr, hX, hbl, rfl, fun _ => rfl⟩
  have hw := y_start (S := s.heap.size) hC rfl hL
  have hl := lv_entry ([.ref b]) (n := 4) (Nat.le_of_ble_eq_true rfl)
  rw [lg_entry_eq]
  have := hw Ext.rf s.heap [] _ ⟨rfl, fun a h => absurd rfl h, fun a _ => ⟨rfl, fun k i => ⟨rfl, rfl, rfl⟩⟩⟩ va_S.rf hl
  rw [Nat.sub_self, Nat.sub_self] at this
  exact this
