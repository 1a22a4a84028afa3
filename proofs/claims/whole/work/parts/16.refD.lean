/-! shut: a scene is closed, its listeners go -/
def gone (th sc : Nat → Int32) (s : Int32) (i : Nat) : Nat → Int32 := fun j => if j < i ∧ ¬ th j = 0 ∧ sc j = s then 0 else th j
def gcnt (th sc : Nat → Int32) (s : Int32) : Nat → Nat
  | 0 => 0
  | i + 1 => if ¬ th i = 0 ∧ sc i = s then gcnt th sc s i + 1 else gcnt th sc s i
theorem gcnt_le (th sc : Nat → Int32) (s : Int32) : ∀ i, gcnt th sc s i ≤ i := by
  intro i
  induction i with
  | zero => simp [gcnt]
  | succ i ih =>
    rw [gcnt]
    split <;> omega
theorem gone_s (th sc : Nat → Int32) (s : Int32) (i : Nat) (h : ¬ th i = 0 ∧ sc i = s) : gone th sc s (i + 1) = (fun j => if j = i then 0 else gone th sc s i j) := by
  funext j
  simp only [gone]
  by_cases e : j = i
  · subst e; rw [if_pos ⟨by omega, h⟩, if_pos rfl]
  · rw [if_neg e]
    by_cases e2 : j < i
    · simp [e2, show j < i + 1 by omega]
    · simp [e2, show ¬ j < i + 1 by omega]
theorem gone_k (th sc : Nat → Int32) (s : Int32) (i : Nat) (h : ¬ (¬ th i = 0 ∧ sc i = s)) : gone th sc s (i + 1) = gone th sc s i := by
  funext j
  simp only [gone]
  by_cases e : j = i
  · subst e; rw [if_neg (fun q => h q.2), if_neg (fun q => h q.2)]
  · by_cases e2 : j < i
    · simp [e2, show j < i + 1 by omega]
    · simp [e2, show ¬ j < i + 1 by omega]
set_option maxRecDepth 20000 in
theorem l_shut {D : DD} {d : Nat} {M0 M : Mem} {h nl : Nat} {Q : Qt} {s : Int32} (H : RM M h) (hl : (mI M 1205 h 0) = nI nl) (hn : nl ≤ 200)
    (hq : Q (wI M 3089095 (h + 11) (gone (mI M 3089095 (h + 11)) (mI M 1089059 (h + 7)) s nl)) (some (.int (nI (gcnt (mI M 3089095 (h + 11)) (mI M 1089059 (h + 7)) s nl))))) : ∀ (r i : Nat), i + r = nl →
    wp D (d + 1) mi_X12_shut M0 (wI M 3089095 (h + 11) (gone (mI M 3089095 (h + 11)) (mI M 1089059 (h + 7)) s i)) 11 [(0, .ref h), (1, .int s), (2, .int (nI (gcnt (mI M 3089095 (h + 11)) (mI M 1089059 (h + 7)) s i))), (3, .int (nI i))] [] Q := by
  intro r
  induction r with
  | zero =>
    intro i hi
    have e : i = nl := by omega
    subst e
    refine runL 11 (tbk_X12_shut cs_n) 40 ?_
    simp -implicitDefEqProofs only [go_0, pI_i, pL_i, pA_i, pA_s, pV_i, oI_i, oL_i, oV_i, lk, rm1, rm2, isR_rf, isR_ref, isR_null, rfo_rf, rfo_ref, rfo_null, rf_some, rf_none, rf_eq_null, rf_eq_ref, ↓nl_n, ↓nl_r, nl_rf, cat_i, cat_l, cat_r, cat_n, cat_rf, lv_args, pN_0, pN_s, tr_ic, tr_lc, tr_null, tr_iload, tr_lload, tr_aload, tr_istore, tr_lstore, tr_astore, tr_iinc, tr_iadd, tr_isub, tr_imul, tr_iand, tr_irem, tr_ladd, tr_lsub, tr_land, tr_lor, tr_lshl, tr_ldiv, tr_lrem, tr_i2l, tr_l2i, tr_i2b, tr_lcmp, tr_dup, tr_dup2, tr_pop, tr_goto, tr_ifeq, tr_ifne, tr_iflt, tr_ifge, tr_ifgt, tr_ifle, tr_iceq, tr_icne, tr_iclt, tr_icge, tr_icgt, tr_icle, tr_ifnull, tr_ifnonnull, tr_sw, tr_getI, tr_getL, tr_getR, tr_putI, tr_putZ, tr_putL, tr_putR, tr_iald, tr_lald, tr_bald, tr_aald, tr_alen, tr_iast, tr_bast, tr_last, tr_aast, tr_newa, tr_anew, tr_new, tr_callV, tr_callS, tr_callI, tr_obj, tr_iret, tr_zret, tr_lret, tr_aret, tr_ret, Nat.reduceAdd, Nat.reduceMul, Nat.reduceDiv, Nat.reduceEqDiff, Nat.reduceLT, Nat.reduceLeDiff, ↓reduceIte, true_and, and_true, true_or, or_true, List.length_nil, List.length_cons, List.nil_append, List.cons_append, Option.toList_some, Option.toList_none, and_self, or_false, false_or, false_and, and_false, imp_self, forall_const, Nat.one_ne_zero, Nat.succ_ne_self, not_true_eq_false, not_false_eq_true, reduceCtorEq, Nat.add_eq_right, Nat.add_eq_left, Nat.add_left_cancel_iff, Nat.zero_add, Int32.reduceLT, Int32.reduceLE, Int32.reduceAdd, Int32.reduceSub, Int32.reduceMul, lg_cmp_ge, lg_cmp_le, lg_cmp_gt, lg_cmp_lt, lg_cmp_eq, i10, i01, eq_self, false_implies, true_implies, implies_true, go_1, mK_wI, mI_wI, hl, Int32.le_refl, RM.k H, Nat.reduceEqDiff, a_X12_shut_0, a_X12_shut_1, a_X12_shut_4, a_X12_shut_5, a_X12_shut_6, a_X12_shut_7, a_X12_shut_8, a_X12_shut_9, a_X12_shut_10, a_X12_shut_11, a_X12_shut_12, a_X12_shut_13, a_X12_shut_16, a_X12_shut_19, a_X12_shut_20, a_X12_shut_23, a_X12_shut_24, a_X12_shut_25, a_X12_shut_28, a_X12_shut_29, a_X12_shut_32, a_X12_shut_33, a_X12_shut_34, a_X12_shut_35, a_X12_shut_38, a_X12_shut_39, a_X12_shut_42, a_X12_shut_43, a_X12_shut_44, a_X12_shut_45, a_X12_shut_48, a_X12_shut_51, a_X12_shut_54, a_X12_shut_55]
    exact hq
  | succ r ih =>
    intro i hi
    refine runL 11 (tbk_X12_shut cs_n) 40 ?_
    have e1 : (nI nl ≤ nI i) = False := eq_false (by rw [nI_leI (by omega) (by omega)]; omega)
    have e2 : gone (mI M 3089095 (h + 11)) (mI M 1089059 (h + 7)) s i i = (mI M 3089095 (h + 11) (i)) := by simp [gone]
    simp -implicitDefEqProofs only [go_0, pI_i, pL_i, pA_i, pA_s, pV_i, oI_i, oL_i, oV_i, lk, rm1, rm2, isR_rf, isR_ref, isR_null, rfo_rf, rfo_ref, rfo_null, rf_some, rf_none, rf_eq_null, rf_eq_ref, ↓nl_n, ↓nl_r, nl_rf, cat_i, cat_l, cat_r, cat_n, cat_rf, lv_args, pN_0, pN_s, tr_ic, tr_lc, tr_null, tr_iload, tr_lload, tr_aload, tr_istore, tr_lstore, tr_astore, tr_iinc, tr_iadd, tr_isub, tr_imul, tr_iand, tr_irem, tr_ladd, tr_lsub, tr_land, tr_lor, tr_lshl, tr_ldiv, tr_lrem, tr_i2l, tr_l2i, tr_i2b, tr_lcmp, tr_dup, tr_dup2, tr_pop, tr_goto, tr_ifeq, tr_ifne, tr_iflt, tr_ifge, tr_ifgt, tr_ifle, tr_iceq, tr_icne, tr_iclt, tr_icge, tr_icgt, tr_icle, tr_ifnull, tr_ifnonnull, tr_sw, tr_getI, tr_getL, tr_getR, tr_putI, tr_putZ, tr_putL, tr_putR, tr_iald, tr_lald, tr_bald, tr_aald, tr_alen, tr_iast, tr_bast, tr_last, tr_aast, tr_newa, tr_anew, tr_new, tr_callV, tr_callS, tr_callI, tr_obj, tr_iret, tr_zret, tr_lret, tr_aret, tr_ret, Nat.reduceAdd, Nat.reduceMul, Nat.reduceDiv, Nat.reduceEqDiff, Nat.reduceLT, Nat.reduceLeDiff, ↓reduceIte, true_and, and_true, true_or, or_true, List.length_nil, List.length_cons, List.nil_append, List.cons_append, Option.toList_some, Option.toList_none, and_self, or_false, false_or, false_and, and_false, imp_self, forall_const, Nat.one_ne_zero, Nat.succ_ne_self, not_true_eq_false, not_false_eq_true, reduceCtorEq, Nat.add_eq_right, Nat.add_eq_left, Nat.add_left_cancel_iff, Nat.zero_add, Int32.reduceLT, Int32.reduceLE, Int32.reduceAdd, Int32.reduceSub, Int32.reduceMul, lg_cmp_ge, lg_cmp_le, lg_cmp_gt, lg_cmp_lt, lg_cmp_eq, i10, i01, eq_self, false_implies, true_implies, implies_true, go_1, mK_wI, mN_wI, mR_wI, mI_wI, hl, e1, e2, sI_wI, nI_clamp (show i < 2 ^ 31 by omega), vp_in_nI (show i < 200 by omega) (by decide), RM.k H, (rm_there H).1, (rm_there H).2.1, (rm_there H).2.2, (rm_sceneOf H).1, (rm_sceneOf H).2.1, (rm_sceneOf H).2.2, a_X12_shut_0, a_X12_shut_1, a_X12_shut_4, a_X12_shut_5, a_X12_shut_6, a_X12_shut_7, a_X12_shut_8, a_X12_shut_9, a_X12_shut_10, a_X12_shut_11, a_X12_shut_12, a_X12_shut_13, a_X12_shut_16, a_X12_shut_19, a_X12_shut_20, a_X12_shut_23, a_X12_shut_24, a_X12_shut_25, a_X12_shut_28, a_X12_shut_29, a_X12_shut_32, a_X12_shut_33, a_X12_shut_34, a_X12_shut_35, a_X12_shut_38, a_X12_shut_39, a_X12_shut_42, a_X12_shut_43, a_X12_shut_44, a_X12_shut_45, a_X12_shut_48, a_X12_shut_51, a_X12_shut_54, a_X12_shut_55]
    have := ih (i + 1) (by omega)
    rw [gcnt] at this
    split
    · rename_i e3
      rw [gone_k _ _ _ _ (fun q => q.1 e3), if_neg (fun q => q.1 e3)] at this
      refine wp_sub ?_ this
      rw [nI_succ]
      intro q hq
      simp only [List.mem_cons, List.not_mem_nil, or_false] at hq ⊢
      rcases hq with rfl | rfl | rfl | rfl <;> simp
    · rename_i e3
      split
      · rename_i e4
        rw [gone_s _ _ _ _ ⟨e3, e4⟩, if_pos ⟨e3, e4⟩] at this
        refine wp_sub ?_ this
        rw [nI_succ, nI_succ]
        intro q hq
        simp only [List.mem_cons, List.not_mem_nil, or_false] at hq ⊢
        rcases hq with rfl | rfl | rfl | rfl <;> simp
      · rename_i e4
        rw [gone_k _ _ _ _ (fun q => e4 q.2), if_neg (fun q => e4 q.2)] at this
        refine wp_sub ?_ this
        rw [nI_succ]
        intro q hq
        simp only [List.mem_cons, List.not_mem_nil, or_false] at hq ⊢
        rcases hq with rfl | rfl | rfl | rfl <;> simp
def s_shut (M : Mem) (h nl sv : Nat) : Mem := wI (sI M 3089023 (h + 3) sv 0) 3089095 (h + 11) (gone (mI M 3089095 (h + 11)) (mI M 1089059 (h + 7)) (nI sv) nl)
def sp_shut (h nl sv : Nat) : Sp := fun av M Q => match av with
  | [.ref h', .int s] => h' = h ∧ s = nI sv ∧ RM M h ∧ sv < 30 ∧ (mI M 1205 h 0) = nI nl ∧ nl ≤ 200 ∧ Q (s_shut M h nl sv) (some (.int (nI (gcnt (mI M 3089095 (h + 11)) (mI M 1089059 (h + 7)) (nI sv) nl))))
  | _ => False
set_option maxRecDepth 20000 in
theorem c_shut {D : DD} {d h nl sv : Nat} : ∀ av M Q, sp_shut h nl sv av M Q → Call D (d + 1) mi_X12_shut av M Q := by
  intro av M Q hz
  match av, hz with
  | [.ref h', .int s], hz =>
    obtain ⟨rfl, rfl, H, hs, hl, hn, hq⟩ := hz
    refine call_of (by decide) (Nat.le_of_ble_eq_true rfl) (runL 11 (tbk_X12_shut cs_n) 40 ?_)
    simp -implicitDefEqProofs only [go_0, pI_i, pL_i, pA_i, pA_s, pV_i, oI_i, oL_i, oV_i, lk, rm1, rm2, isR_rf, isR_ref, isR_null, rfo_rf, rfo_ref, rfo_null, rf_some, rf_none, rf_eq_null, rf_eq_ref, ↓nl_n, ↓nl_r, nl_rf, cat_i, cat_l, cat_r, cat_n, cat_rf, lv_args, pN_0, pN_s, tr_ic, tr_lc, tr_null, tr_iload, tr_lload, tr_aload, tr_istore, tr_lstore, tr_astore, tr_iinc, tr_iadd, tr_isub, tr_imul, tr_iand, tr_irem, tr_ladd, tr_lsub, tr_land, tr_lor, tr_lshl, tr_ldiv, tr_lrem, tr_i2l, tr_l2i, tr_i2b, tr_lcmp, tr_dup, tr_dup2, tr_pop, tr_goto, tr_ifeq, tr_ifne, tr_iflt, tr_ifge, tr_ifgt, tr_ifle, tr_iceq, tr_icne, tr_iclt, tr_icge, tr_icgt, tr_icle, tr_ifnull, tr_ifnonnull, tr_sw, tr_getI, tr_getL, tr_getR, tr_putI, tr_putZ, tr_putL, tr_putR, tr_iald, tr_lald, tr_bald, tr_aald, tr_alen, tr_iast, tr_bast, tr_last, tr_aast, tr_newa, tr_anew, tr_new, tr_callV, tr_callS, tr_callI, tr_obj, tr_iret, tr_zret, tr_lret, tr_aret, tr_ret, Nat.reduceAdd, Nat.reduceMul, Nat.reduceDiv, Nat.reduceEqDiff, Nat.reduceLT, Nat.reduceLeDiff, ↓reduceIte, true_and, and_true, true_or, or_true, List.length_nil, List.length_cons, List.nil_append, List.cons_append, Option.toList_some, Option.toList_none, and_self, or_false, false_or, false_and, and_false, imp_self, forall_const, Nat.one_ne_zero, Nat.succ_ne_self, not_true_eq_false, not_false_eq_true, reduceCtorEq, Nat.add_eq_right, Nat.add_eq_left, Nat.add_left_cancel_iff, Nat.zero_add, Int32.reduceLT, Int32.reduceLE, Int32.reduceAdd, Int32.reduceSub, Int32.reduceMul, lg_cmp_ge, lg_cmp_le, lg_cmp_gt, lg_cmp_lt, lg_cmp_eq, i10, i01, eq_self, false_implies, true_implies, implies_true, go_1, nI_clamp (show sv < 2 ^ 31 by omega), vp_in_nI (show sv < 30 by omega) (by decide), RM.k H, (rm_isOpen H).1, (rm_isOpen H).2.1, (rm_isOpen H).2.2, a_X12_shut_0, a_X12_shut_1, a_X12_shut_4, a_X12_shut_5, a_X12_shut_6, a_X12_shut_7, a_X12_shut_8, a_X12_shut_9, a_X12_shut_10, a_X12_shut_11, a_X12_shut_12, a_X12_shut_13, a_X12_shut_16, a_X12_shut_19, a_X12_shut_20, a_X12_shut_23, a_X12_shut_24, a_X12_shut_25, a_X12_shut_28, a_X12_shut_29, a_X12_shut_32, a_X12_shut_33, a_X12_shut_34, a_X12_shut_35, a_X12_shut_38, a_X12_shut_39, a_X12_shut_42, a_X12_shut_43, a_X12_shut_44, a_X12_shut_45, a_X12_shut_48, a_X12_shut_51, a_X12_shut_54, a_X12_shut_55]
    have := l_shut (D := D) (d := d) (M0 := M) (M := sI M 3089023 (h' + 3) sv 0) (Q := Q) (s := nI sv) (h := h') H hl hn hq nl 0 (by omega)
    rw [show gone (mI (sI M 3089023 (h' + 3) sv 0) 3089095 (h' + 11)) (mI (sI M 3089023 (h' + 3) sv 0) 1089059 (h' + 7)) (nI sv) 0 = mI (sI M 3089023 (h' + 3) sv 0) 3089095 (h' + 11) from by funext j; simp [gone], wI_id] at this
    refine wp_sub ?_ this
    rw [gcnt, nI_0]
    intro q hq
    simp only [List.mem_cons, List.not_mem_nil, or_false] at hq ⊢
    rcases hq with rfl | rfl | rfl | rfl <;> simp
