/-! The reference's trays -/
theorem nI_lt_lit {i n : Nat} {L : Int32} (hL : nI n = L) (hi : i < 2 ^ 31) (hn : n < 2 ^ 31) : (L ≤ nI i) = (n ≤ i) := by
  subst hL; exact propext (nI_leI hn hi)
/-- the cells of tray t, up to i, are 0 -/
def clr (f : Nat → Int64) (t i : Nat) : Nat → Int64 := fun j => if 16 * t ≤ j ∧ j < 16 * t + i then 0 else f j
set_option maxRecDepth 20000 in
theorem l_lay1 {D : DD} {d : Nat} {M0 M : Mem} {h t : Nat} {Q : Qt} {x2 x3 : Int32} (H : RM M h) (ht : t < 8) (hq : Q (wL M 2089207 (h + 19) (clr (mL M 2089207 (h + 19)) t 16)) none) : ∀ (r i : Nat), i + r = 16 →
    wp D (d + 1) mi_X12_lay1 M0 (wL M 2089207 (h + 19) (clr (mL M 2089207 (h + 19)) t i)) 17 [(0, .ref h), (1, .int (nI t)), (2, .int x2), (3, .int x3), (4, .int (nI i))] [] Q := by
  intro r
  induction r with
  | zero =>
    intro i hi
    have e : i = 16 := by omega
    subst e
    refine runL 17 (tbk_X12_lay1 cs_n) 30 ?_
    simp -implicitDefEqProofs +decide only [go_0, pI_i, pL_i, pA_i, pA_s, pV_i, oI_i, oL_i, oV_i, lk, rm1, rm2, isR_rf, isR_ref, isR_null, rfo_rf, rfo_ref, rfo_null, rf_some, rf_none, rf_eq_null, rf_eq_ref, ↓nl_n, ↓nl_r, nl_rf, cat_i, cat_l, cat_r, cat_n, cat_rf, lv_args, pN_0, pN_s, tr_ic, tr_lc, tr_null, tr_iload, tr_lload, tr_aload, tr_istore, tr_lstore, tr_astore, tr_iinc, tr_iadd, tr_isub, tr_imul, tr_iand, tr_irem, tr_ladd, tr_lsub, tr_land, tr_lor, tr_lshl, tr_ldiv, tr_lrem, tr_i2l, tr_l2i, tr_i2b, tr_lcmp, tr_dup, tr_dup2, tr_pop, tr_goto, tr_ifeq, tr_ifne, tr_iflt, tr_ifge, tr_ifgt, tr_ifle, tr_iceq, tr_icne, tr_iclt, tr_icge, tr_icgt, tr_icle, tr_ifnull, tr_ifnonnull, tr_sw, tr_getI, tr_getL, tr_getR, tr_putI, tr_putZ, tr_putL, tr_putR, tr_iald, tr_lald, tr_bald, tr_aald, tr_alen, tr_iast, tr_bast, tr_last, tr_aast, tr_newa, tr_anew, tr_new, tr_callV, tr_callS, tr_callI, tr_obj, tr_iret, tr_zret, tr_lret, tr_aret, tr_ret, Nat.reduceAdd, Nat.reduceMul, Nat.reduceDiv, Nat.reduceEqDiff, Nat.reduceLT, Nat.reduceLeDiff, ↓reduceIte, true_and, and_true, true_or, or_true, List.length_nil, List.length_cons, List.nil_append, List.cons_append, Option.toList_some, Option.toList_none, and_self, or_false, false_or, false_and, and_false, imp_self, forall_const, Nat.one_ne_zero, Nat.succ_ne_self, not_true_eq_false, not_false_eq_true, reduceCtorEq, Nat.add_eq_right, Nat.add_eq_left, Nat.add_left_cancel_iff, Nat.zero_add, Int32.reduceLT, Int32.reduceLE, Int32.reduceAdd, Int32.reduceSub, Int32.reduceMul, lg_cmp_ge, lg_cmp_le, lg_cmp_gt, lg_cmp_lt, lg_cmp_eq, i10, i01, eq_self, false_implies, true_implies, implies_true, go_1, nI_lt_lit (n := 16) (L := 16) rfl (show 16 < 2 ^ 31 by omega) (by decide), a_X12_lay1_0, a_X12_lay1_1, a_X12_lay1_4, a_X12_lay1_5, a_X12_lay1_6, a_X12_lay1_7, a_X12_lay1_8, a_X12_lay1_11, a_X12_lay1_12, a_X12_lay1_13, a_X12_lay1_14, a_X12_lay1_15, a_X12_lay1_17, a_X12_lay1_19, a_X12_lay1_21, a_X12_lay1_24, a_X12_lay1_25, a_X12_lay1_28, a_X12_lay1_30, a_X12_lay1_31, a_X12_lay1_32, a_X12_lay1_34, a_X12_lay1_35, a_X12_lay1_36, a_X12_lay1_37, a_X12_lay1_40, a_X12_lay1_43]
    exact hq
  | succ r ih =>
    intro i hi
    refine runL 17 (tbk_X12_lay1 cs_n) 30 ?_
    have e16 : (16 : Int32) * nI t + nI i = nI (16 * t + i) := by rw [show (16 : Int32) = nI 16 from rfl, pk_mul, nI_add]
    simp -implicitDefEqProofs only [go_0, pI_i, pL_i, pA_i, pA_s, pV_i, oI_i, oL_i, oV_i, lk, rm1, rm2, isR_rf, isR_ref, isR_null, rfo_rf, rfo_ref, rfo_null, rf_some, rf_none, rf_eq_null, rf_eq_ref, ↓nl_n, ↓nl_r, nl_rf, cat_i, cat_l, cat_r, cat_n, cat_rf, lv_args, pN_0, pN_s, tr_ic, tr_lc, tr_null, tr_iload, tr_lload, tr_aload, tr_istore, tr_lstore, tr_astore, tr_iinc, tr_iadd, tr_isub, tr_imul, tr_iand, tr_irem, tr_ladd, tr_lsub, tr_land, tr_lor, tr_lshl, tr_ldiv, tr_lrem, tr_i2l, tr_l2i, tr_i2b, tr_lcmp, tr_dup, tr_dup2, tr_pop, tr_goto, tr_ifeq, tr_ifne, tr_iflt, tr_ifge, tr_ifgt, tr_ifle, tr_iceq, tr_icne, tr_iclt, tr_icge, tr_icgt, tr_icle, tr_ifnull, tr_ifnonnull, tr_sw, tr_getI, tr_getL, tr_getR, tr_putI, tr_putZ, tr_putL, tr_putR, tr_iald, tr_lald, tr_bald, tr_aald, tr_alen, tr_iast, tr_bast, tr_last, tr_aast, tr_newa, tr_anew, tr_new, tr_callV, tr_callS, tr_callI, tr_obj, tr_iret, tr_zret, tr_lret, tr_aret, tr_ret, Nat.reduceAdd, Nat.reduceMul, Nat.reduceDiv, Nat.reduceEqDiff, Nat.reduceLT, Nat.reduceLeDiff, ↓reduceIte, true_and, and_true, true_or, or_true, List.length_nil, List.length_cons, List.nil_append, List.cons_append, Option.toList_some, Option.toList_none, and_self, or_false, false_or, false_and, and_false, imp_self, forall_const, Nat.one_ne_zero, Nat.succ_ne_self, not_true_eq_false, not_false_eq_true, reduceCtorEq, Nat.add_eq_right, Nat.add_eq_left, Nat.add_left_cancel_iff, Nat.zero_add, Int32.reduceLT, Int32.reduceLE, Int32.reduceAdd, Int32.reduceSub, Int32.reduceMul, lg_cmp_ge, lg_cmp_le, lg_cmp_gt, lg_cmp_lt, lg_cmp_eq, i10, i01, eq_self, false_implies, true_implies, implies_true, go_1, mK_wL, mN_wL, mR_wL, nI_lt_lit (n := 16) (L := 16) rfl (show i < 2 ^ 31 by omega) (by decide), show ¬ 16 ≤ i by omega, e16, nI_clamp (show 16 * t + i < 2 ^ 31 by omega), vp_in_nI (show 16 * t + i < 128 by omega) (by decide), sL_wL, RM.k H, (rm_cell H).1, (rm_cell H).2.1, (rm_cell H).2.2, a_X12_lay1_0, a_X12_lay1_1, a_X12_lay1_4, a_X12_lay1_5, a_X12_lay1_6, a_X12_lay1_7, a_X12_lay1_8, a_X12_lay1_11, a_X12_lay1_12, a_X12_lay1_13, a_X12_lay1_14, a_X12_lay1_15, a_X12_lay1_17, a_X12_lay1_19, a_X12_lay1_21, a_X12_lay1_24, a_X12_lay1_25, a_X12_lay1_28, a_X12_lay1_30, a_X12_lay1_31, a_X12_lay1_32, a_X12_lay1_34, a_X12_lay1_35, a_X12_lay1_36, a_X12_lay1_37, a_X12_lay1_40, a_X12_lay1_43]
    have := ih (i + 1) (by omega)
    rw [show clr (mL M 2089207 (h + 19)) t (i + 1) = (fun j => if j = 16 * t + i then 0 else clr (mL M 2089207 (h + 19)) t i j) from by
      funext j
      simp only [clr]
      by_cases e1 : j = 16 * t + i
      · rw [if_pos (by omega), if_pos e1]
      · rw [if_neg e1]
        by_cases e2 : 16 * t ≤ j ∧ j < 16 * t + i
        · rw [if_pos e2, if_pos (by omega)]
        · rw [if_neg e2, if_neg (by omega)]] at this
    refine wp_sub ?_ this
    rw [nI_succ]
    intro q hq
    simp only [List.mem_cons, List.not_mem_nil, or_false] at hq ⊢
    rcases hq with rfl | rfl | rfl | rfl | rfl <;> simp
def s_lay1 (M : Mem) (h t : Nat) (lane n : Int32) : Mem := wL (sI (sI M 1089148 (h + 17) t lane) 1089198 (h + 18) t n) 2089207 (h + 19) (clr (mL M 2089207 (h + 19)) t 16)
def sp_lay1 (h t : Nat) : Sp := fun av M Q => match av with
  | [.ref h', .int t', .int lane, .int n] => h' = h ∧ t' = nI t ∧ RM M h ∧ t < 8 ∧ Q (s_lay1 M h t lane n) none
  | _ => False
set_option maxRecDepth 20000 in
theorem c_lay1 {D : DD} {d h t : Nat} : ∀ av M Q, sp_lay1 h t av M Q → Call D (d + 1) mi_X12_lay1 av M Q := by
  intro av M Q hz
  match av, hz with
  | [.ref h', .int t', .int lane, .int n], hz =>
    obtain ⟨rfl, rfl, H, ht, hq⟩ := hz
    refine call_of (by decide) (Nat.le_of_ble_eq_true rfl) (runL 17 (tbk_X12_lay1 cs_n) 30 ?_)
    simp -implicitDefEqProofs only [go_0, pI_i, pL_i, pA_i, pA_s, pV_i, oI_i, oL_i, oV_i, lk, rm1, rm2, isR_rf, isR_ref, isR_null, rfo_rf, rfo_ref, rfo_null, rf_some, rf_none, rf_eq_null, rf_eq_ref, ↓nl_n, ↓nl_r, nl_rf, cat_i, cat_l, cat_r, cat_n, cat_rf, lv_args, pN_0, pN_s, tr_ic, tr_lc, tr_null, tr_iload, tr_lload, tr_aload, tr_istore, tr_lstore, tr_astore, tr_iinc, tr_iadd, tr_isub, tr_imul, tr_iand, tr_irem, tr_ladd, tr_lsub, tr_land, tr_lor, tr_lshl, tr_ldiv, tr_lrem, tr_i2l, tr_l2i, tr_i2b, tr_lcmp, tr_dup, tr_dup2, tr_pop, tr_goto, tr_ifeq, tr_ifne, tr_iflt, tr_ifge, tr_ifgt, tr_ifle, tr_iceq, tr_icne, tr_iclt, tr_icge, tr_icgt, tr_icle, tr_ifnull, tr_ifnonnull, tr_sw, tr_getI, tr_getL, tr_getR, tr_putI, tr_putZ, tr_putL, tr_putR, tr_iald, tr_lald, tr_bald, tr_aald, tr_alen, tr_iast, tr_bast, tr_last, tr_aast, tr_newa, tr_anew, tr_new, tr_callV, tr_callS, tr_callI, tr_obj, tr_iret, tr_zret, tr_lret, tr_aret, tr_ret, Nat.reduceAdd, Nat.reduceMul, Nat.reduceDiv, Nat.reduceEqDiff, Nat.reduceLT, Nat.reduceLeDiff, ↓reduceIte, true_and, and_true, true_or, or_true, List.length_nil, List.length_cons, List.nil_append, List.cons_append, Option.toList_some, Option.toList_none, and_self, or_false, false_or, false_and, and_false, imp_self, forall_const, Nat.one_ne_zero, Nat.succ_ne_self, not_true_eq_false, not_false_eq_true, reduceCtorEq, Nat.add_eq_right, Nat.add_eq_left, Nat.add_left_cancel_iff, Nat.zero_add, Int32.reduceLT, Int32.reduceLE, Int32.reduceAdd, Int32.reduceSub, Int32.reduceMul, lg_cmp_ge, lg_cmp_le, lg_cmp_gt, lg_cmp_lt, lg_cmp_eq, i10, i01, eq_self, false_implies, true_implies, implies_true, mK_sI, mK_sL, mK_sR, mK_nw, mN_sI, mN_sL, mN_sR, mN_nw, mI_sI, mI_sL, mI_sR, mI_nw, mL_sI, mL_sL, mL_sR, mL_nw, mR_sI, mR_sL, mR_sR, mR_nw, mS_sI, mS_sL, mS_sR, mS_nw, mU_sI, mU_sL, mU_sR, mU_nw, go_1, nI_clamp (show t < 2 ^ 31 by omega), vp_in_nI (show t < 8 by omega) (by decide), RM.k H, (rm_lanes H).1, (rm_lanes H).2.1, (rm_lanes H).2.2, (rm_sizes H).1, (rm_sizes H).2.1, (rm_sizes H).2.2, a_X12_lay1_0, a_X12_lay1_1, a_X12_lay1_4, a_X12_lay1_5, a_X12_lay1_6, a_X12_lay1_7, a_X12_lay1_8, a_X12_lay1_11, a_X12_lay1_12, a_X12_lay1_13, a_X12_lay1_14, a_X12_lay1_15, a_X12_lay1_17, a_X12_lay1_19, a_X12_lay1_21, a_X12_lay1_24, a_X12_lay1_25, a_X12_lay1_28, a_X12_lay1_30, a_X12_lay1_31, a_X12_lay1_32, a_X12_lay1_34, a_X12_lay1_35, a_X12_lay1_36, a_X12_lay1_37, a_X12_lay1_40, a_X12_lay1_43]
    have := l_lay1 (D := D) (d := d) (M0 := M) (M := sI (sI M 1089148 (h' + 17) t lane) 1089198 (h' + 18) t n) (Q := Q) (x2 := lane) (x3 := n) (t := t) (h := h') H ht hq 16 0 rfl
    rw [show clr (mL (sI (sI M 1089148 (h' + 17) t lane) 1089198 (h' + 18) t n) 2089207 (h' + 19)) t 0 = mL (sI (sI M 1089148 (h' + 17) t lane) 1089198 (h' + 18) t n) 2089207 (h' + 19) from by
      funext j
      simp only [clr]
      rw [if_neg (by omega)], wL_id] at this
    refine wp_sub ?_ this
    rw [nI_0]
    intro q hq
    simp only [List.mem_cons, List.not_mem_nil, or_false] at hq ⊢
    rcases hq with rfl | rfl | rfl | rfl | rfl <;> simp
/-- against(t, n): what stands against the tray taken as ints -/
def sp_against (h t sz : Nat) : Sp := fun av M Q => match av with
  | [.ref h', .int t', .int n] => h' = h ∧ t' = nI t ∧ RM M h ∧ t < 8 ∧ sz ≤ 16 ∧ (mI M 1089198 (h + 18) (t)) = nI sz ∧ (if (mI M 1089148 (h + 17) (t)) = -4 then Q M (some (.int 1)) else if (mI M 1089148 (h + 17) (t)) = 1 then (if inN n sz then Q M (some (.int 0)) else Q M (some (.int 2))) else Q M (some (.int 3)))
  | _ => False
set_option maxRecDepth 20000 in
theorem c_against {D : DD} {d h t sz : Nat} : ∀ av M Q, sp_against h t sz av M Q → Call D (d + 2) mi_X12_against av M Q := by
  intro av M Q hz
  match av, hz with
  | [.ref h', .int t', .int n], hz =>
    obtain ⟨rfl, rfl, H, ht, hs, hsz, hq⟩ := hz
    refine call_of (by decide) (Nat.le_of_ble_eq_true rfl) (run0 (tbk_X12_against (cs_c mn_X12_in c_in cs_n)) 30 ?_)
    simp -implicitDefEqProofs only [go_0, pI_i, pL_i, pA_i, pA_s, pV_i, oI_i, oL_i, oV_i, lk, rm1, rm2, isR_rf, isR_ref, isR_null, rfo_rf, rfo_ref, rfo_null, rf_some, rf_none, rf_eq_null, rf_eq_ref, ↓nl_n, ↓nl_r, nl_rf, cat_i, cat_l, cat_r, cat_n, cat_rf, lv_args, pN_0, pN_s, tr_ic, tr_lc, tr_null, tr_iload, tr_lload, tr_aload, tr_istore, tr_lstore, tr_astore, tr_iinc, tr_iadd, tr_isub, tr_imul, tr_iand, tr_irem, tr_ladd, tr_lsub, tr_land, tr_lor, tr_lshl, tr_ldiv, tr_lrem, tr_i2l, tr_l2i, tr_i2b, tr_lcmp, tr_dup, tr_dup2, tr_pop, tr_goto, tr_ifeq, tr_ifne, tr_iflt, tr_ifge, tr_ifgt, tr_ifle, tr_iceq, tr_icne, tr_iclt, tr_icge, tr_icgt, tr_icle, tr_ifnull, tr_ifnonnull, tr_sw, tr_getI, tr_getL, tr_getR, tr_putI, tr_putZ, tr_putL, tr_putR, tr_iald, tr_lald, tr_bald, tr_aald, tr_alen, tr_iast, tr_bast, tr_last, tr_aast, tr_newa, tr_anew, tr_new, tr_callV, tr_callS, tr_callI, tr_obj, tr_iret, tr_zret, tr_lret, tr_aret, tr_ret, Nat.reduceAdd, Nat.reduceMul, Nat.reduceDiv, Nat.reduceEqDiff, Nat.reduceLT, Nat.reduceLeDiff, ↓reduceIte, true_and, and_true, true_or, or_true, List.length_nil, List.length_cons, List.nil_append, List.cons_append, Option.toList_some, Option.toList_none, and_self, or_false, false_or, false_and, and_false, imp_self, forall_const, Nat.one_ne_zero, Nat.succ_ne_self, not_true_eq_false, not_false_eq_true, reduceCtorEq, Nat.add_eq_right, Nat.add_eq_left, Nat.add_left_cancel_iff, Nat.zero_add, Int32.reduceLT, Int32.reduceLE, Int32.reduceAdd, Int32.reduceSub, Int32.reduceMul, lg_cmp_ge, lg_cmp_le, lg_cmp_gt, lg_cmp_lt, lg_cmp_eq, i10, i01, eq_self, false_implies, true_implies, implies_true, cs, sp_in, hsz, in_n (show sz < 2 ^ 30 by omega), nI_clamp (show t < 2 ^ 31 by omega), vp_in_nI (show t < 8 by omega) (by decide), RM.k H, (rm_lanes H).1, (rm_lanes H).2.1, (rm_lanes H).2.2, (rm_sizes H).1, (rm_sizes H).2.1, (rm_sizes H).2.2, a_X12_against_0, a_X12_against_1, a_X12_against_4, a_X12_against_5, a_X12_against_6, a_X12_against_8, a_X12_against_11, a_X12_against_12, a_X12_against_15, a_X12_against_16, a_X12_against_19, a_X12_against_20, a_X12_against_21, a_X12_against_22, a_X12_against_25, a_X12_against_26, a_X12_against_29, a_X12_against_30, a_X12_against_31, a_X12_against_32, a_X12_against_33, a_X12_against_36, a_X12_against_37, a_X12_against_38, a_X12_against_39, a_X12_against_40, a_X12_against_41, a_X12_against_44, a_X12_against_47, a_X12_against_48, a_X12_against_51, a_X12_against_52]
    split
    · rename_i e; rw [if_pos e] at hq; exact hq
    · rename_i e
      rw [if_neg e] at hq
      split
      · rename_i e2
        rw [if_pos e2] at hq
        exact ⟨fun e3 => by rw [if_pos e3] at hq; exact hq, fun e3 => by rw [if_neg e3] at hq; exact hq⟩
      · rename_i e2
        rw [if_neg e2] at hq; exact hq
