/-! Loops of the class: a tray is laid anew, a scene is shut -/
def clr0 (f : Nat → Int64) (n : Nat) : Nat → Int64 := fun j => if j < n then 0 else f j
theorem clr0_s (f : Nat → Int64) (n : Nat) : clr0 f (n + 1) = (fun j => if j = n then 0 else clr0 f n j) := by
  funext j
  simp only [clr0]
  by_cases e : j = n
  · rw [if_pos e, if_pos (by omega)]
  · rw [if_neg e]
    by_cases e2 : j < n
    · rw [if_pos e2, if_pos (by omega)]
    · rw [if_neg e2, if_neg (by omega)]
theorem clr0_0 (f : Nat → Int64) : clr0 f 0 = f := by funext j; simp [clr0]
set_option maxRecDepth 20000 in
theorem l_renew {D : DD} {d : Nat} {M0 M : Mem} {a b n : Nat} {Q : Qt} {x1 : Int32} (hk : mK M a = 10) (hr : mR M 900 a 0 = some b) (hb : mK M b = 2050007) (hn : mN M b = 16) (h16 : n ≤ 16) (hq : Q (wL M 2050007 b (clr0 (mL M 2050007 b) n)) none) : ∀ (r i : Nat), i + r = n →
    wp D (d + 1) mi_X9_renew M0 (wL M 2050007 b (clr0 (mL M 2050007 b) i)) 23 [(0, .ref a), (1, .int x1), (2, .int (nI n)), (3, .int (nI i))] [] Q := by
  intro r
  induction r with
  | zero =>
    intro i hi
    have e : i = n := by omega
    subst e
    refine runL 23 (tbk_X9_renew (cs_n)) 30 ?_
    simp -implicitDefEqProofs +decide only [go_0, pI_i, pL_i, pA_i, pA_s, pV_i, oI_i, oL_i, oV_i, lk, rm1, rm2, isR_rf, isR_ref, isR_null, rfo_rf, rfo_ref, rfo_null, rf_some, rf_none, rf_eq_null, rf_eq_ref, ↓nl_n, ↓nl_r, nl_rf, cat_i, cat_l, cat_r, cat_n, cat_rf, lv_args, pN_0, pN_s, tr_ic, tr_lc, tr_null, tr_iload, tr_lload, tr_aload, tr_istore, tr_lstore, tr_astore, tr_iinc, tr_iadd, tr_isub, tr_imul, tr_iand, tr_irem, tr_ladd, tr_lsub, tr_land, tr_lor, tr_lshl, tr_ldiv, tr_lrem, tr_i2l, tr_l2i, tr_i2b, tr_lcmp, tr_dup, tr_dup2, tr_pop, tr_goto, tr_ifeq, tr_ifne, tr_iflt, tr_ifge, tr_ifgt, tr_ifle, tr_iceq, tr_icne, tr_iclt, tr_icge, tr_icgt, tr_icle, tr_ifnull, tr_ifnonnull, tr_sw, tr_getI, tr_getL, tr_getR, tr_putI, tr_putZ, tr_putL, tr_putR, tr_iald, tr_lald, tr_bald, tr_aald, tr_alen, tr_iast, tr_bast, tr_last, tr_aast, tr_newa, tr_anew, tr_new, tr_callV, tr_callS, tr_callI, tr_obj, tr_iret, tr_zret, tr_lret, tr_aret, tr_ret, Nat.reduceAdd, Nat.reduceMul, Nat.reduceDiv, Nat.reduceEqDiff, Nat.reduceLT, Nat.reduceLeDiff, ↓reduceIte, true_and, and_true, true_or, or_true, List.length_nil, List.length_cons, List.nil_append, List.cons_append, Option.toList_some, Option.toList_none, and_self, or_false, false_or, false_and, and_false, imp_self, forall_const, Nat.one_ne_zero, Nat.succ_ne_self, not_true_eq_false, not_false_eq_true, reduceCtorEq, Nat.add_eq_right, Nat.add_eq_left, Nat.add_left_cancel_iff, Nat.zero_add, Int32.reduceLT, Int32.reduceLE, Int32.reduceAdd, Int32.reduceSub, Int32.reduceMul, lg_cmp_ge, lg_cmp_le, lg_cmp_gt, lg_cmp_lt, lg_cmp_eq, i10, i01, eq_self, false_implies, true_implies, implies_true, mK_sI, mK_sL, mK_sR, mK_nw, mN_sI, mN_sL, mN_sR, mN_nw, mI_sI, mI_sL, mI_sR, mI_nw, mL_sI, mL_sL, mL_sR, mL_nw, mR_sI, mR_sL, mR_sR, mR_nw, mS_sI, mS_sL, mS_sR, mS_nw, mU_sI, mU_sL, mU_sR, mU_nw, go_1, csj, inl, lgn, lgc, Int32.le_refl, a_X9_renew_0, a_X9_renew_1, a_X9_renew_4, a_X9_renew_5, a_X9_renew_7, a_X9_renew_10, a_X9_renew_11, a_X9_renew_12, a_X9_renew_13, a_X9_renew_16, a_X9_renew_17, a_X9_renew_18, a_X9_renew_21, a_X9_renew_22, a_X9_renew_23, a_X9_renew_24, a_X9_renew_25, a_X9_renew_28, a_X9_renew_29, a_X9_renew_32, a_X9_renew_33, a_X9_renew_34, a_X9_renew_35, a_X9_renew_38, a_X9_renew_41]
    exact hq
  | succ r ih =>
    intro i hi
    refine runL 23 (tbk_X9_renew (cs_n)) 30 ?_
    simp -implicitDefEqProofs +decide only [go_0, pI_i, pL_i, pA_i, pA_s, pV_i, oI_i, oL_i, oV_i, lk, rm1, rm2, isR_rf, isR_ref, isR_null, rfo_rf, rfo_ref, rfo_null, rf_some, rf_none, rf_eq_null, rf_eq_ref, ↓nl_n, ↓nl_r, nl_rf, cat_i, cat_l, cat_r, cat_n, cat_rf, lv_args, pN_0, pN_s, tr_ic, tr_lc, tr_null, tr_iload, tr_lload, tr_aload, tr_istore, tr_lstore, tr_astore, tr_iinc, tr_iadd, tr_isub, tr_imul, tr_iand, tr_irem, tr_ladd, tr_lsub, tr_land, tr_lor, tr_lshl, tr_ldiv, tr_lrem, tr_i2l, tr_l2i, tr_i2b, tr_lcmp, tr_dup, tr_dup2, tr_pop, tr_goto, tr_ifeq, tr_ifne, tr_iflt, tr_ifge, tr_ifgt, tr_ifle, tr_iceq, tr_icne, tr_iclt, tr_icge, tr_icgt, tr_icle, tr_ifnull, tr_ifnonnull, tr_sw, tr_getI, tr_getL, tr_getR, tr_putI, tr_putZ, tr_putL, tr_putR, tr_iald, tr_lald, tr_bald, tr_aald, tr_alen, tr_iast, tr_bast, tr_last, tr_aast, tr_newa, tr_anew, tr_new, tr_callV, tr_callS, tr_callI, tr_obj, tr_iret, tr_zret, tr_lret, tr_aret, tr_ret, Nat.reduceAdd, Nat.reduceMul, Nat.reduceDiv, Nat.reduceEqDiff, Nat.reduceLT, Nat.reduceLeDiff, ↓reduceIte, true_and, and_true, true_or, or_true, List.length_nil, List.length_cons, List.nil_append, List.cons_append, Option.toList_some, Option.toList_none, and_self, or_false, false_or, false_and, and_false, imp_self, forall_const, Nat.one_ne_zero, Nat.succ_ne_self, not_true_eq_false, not_false_eq_true, reduceCtorEq, Nat.add_eq_right, Nat.add_eq_left, Nat.add_left_cancel_iff, Nat.zero_add, Int32.reduceLT, Int32.reduceLE, Int32.reduceAdd, Int32.reduceSub, Int32.reduceMul, lg_cmp_ge, lg_cmp_le, lg_cmp_gt, lg_cmp_lt, lg_cmp_eq, i10, i01, eq_self, false_implies, true_implies, implies_true, mK_sI, mK_sL, mK_sR, mK_nw, mN_sI, mN_sL, mN_sR, mN_nw, mI_sI, mI_sL, mI_sR, mI_nw, mL_sI, mL_sL, mL_sR, mL_nw, mR_sI, mR_sL, mR_sR, mR_nw, mS_sI, mS_sL, mS_sR, mS_nw, mU_sI, mU_sL, mU_sR, mU_nw, go_1, csj, inl, lgn, lgc, mK_wL, mN_wL, mR_wL, hk, hr, hb, hn, nI_nge (show i < n by omega) (show n < 2 ^ 31 by omega), nI_clamp (show i < 2 ^ 31 by omega), vp_in_nI (show i < 16 by omega) (by decide), sL_wL, a_X9_renew_0, a_X9_renew_1, a_X9_renew_4, a_X9_renew_5, a_X9_renew_7, a_X9_renew_10, a_X9_renew_11, a_X9_renew_12, a_X9_renew_13, a_X9_renew_16, a_X9_renew_17, a_X9_renew_18, a_X9_renew_21, a_X9_renew_22, a_X9_renew_23, a_X9_renew_24, a_X9_renew_25, a_X9_renew_28, a_X9_renew_29, a_X9_renew_32, a_X9_renew_33, a_X9_renew_34, a_X9_renew_35, a_X9_renew_38, a_X9_renew_41]
    have := ih (i + 1) (by omega)
    rw [clr0_s] at this
    refine wp_sub ?_ this
    rw [nI_succ]
    intro q hq
    simp only [List.mem_cons, List.not_mem_nil, or_false] at hq ⊢
    rcases hq with rfl | rfl | rfl | rfl <;> simp
def s_renew (M : Mem) (a b n : Nat) (lane : Int32) : Mem := wL (sI (sI M 901 a 0 lane) 902 a 0 (nI n)) 2050007 b (clr0 (mL M 2050007 b) n)
def sp_renew (a b n : Nat) : Sp := fun av M Q => match av with
  | [.ref a', .int lane, .int n'] => a' = a ∧ n' = nI n ∧ n ≤ 16 ∧ mK M a = 10 ∧ mR M 900 a 0 = some b ∧ mK M b = 2050007 ∧ mN M b = 16 ∧ Q (s_renew M a b n lane) none
  | _ => False
set_option maxRecDepth 20000 in
theorem c_renew {D : DD} {d a b n : Nat} : ∀ av M Q, sp_renew a b n av M Q → Call D (d + 1) mi_X9_renew av M Q := by
  intro av M Q hz
  match av, hz with
  | [.ref a', .int lane, .int n'], hz =>
    obtain ⟨rfl, rfl, h16, hk, hr, hb, hn, hq⟩ := hz
    refine call_of (by decide) (Nat.le_of_ble_eq_true rfl) ?_
    refine runL 23 (tbk_X9_renew (cs_n)) 30 ?_
    simp -implicitDefEqProofs +decide only [go_0, pI_i, pL_i, pA_i, pA_s, pV_i, oI_i, oL_i, oV_i, lk, rm1, rm2, isR_rf, isR_ref, isR_null, rfo_rf, rfo_ref, rfo_null, rf_some, rf_none, rf_eq_null, rf_eq_ref, ↓nl_n, ↓nl_r, nl_rf, cat_i, cat_l, cat_r, cat_n, cat_rf, lv_args, pN_0, pN_s, tr_ic, tr_lc, tr_null, tr_iload, tr_lload, tr_aload, tr_istore, tr_lstore, tr_astore, tr_iinc, tr_iadd, tr_isub, tr_imul, tr_iand, tr_irem, tr_ladd, tr_lsub, tr_land, tr_lor, tr_lshl, tr_ldiv, tr_lrem, tr_i2l, tr_l2i, tr_i2b, tr_lcmp, tr_dup, tr_dup2, tr_pop, tr_goto, tr_ifeq, tr_ifne, tr_iflt, tr_ifge, tr_ifgt, tr_ifle, tr_iceq, tr_icne, tr_iclt, tr_icge, tr_icgt, tr_icle, tr_ifnull, tr_ifnonnull, tr_sw, tr_getI, tr_getL, tr_getR, tr_putI, tr_putZ, tr_putL, tr_putR, tr_iald, tr_lald, tr_bald, tr_aald, tr_alen, tr_iast, tr_bast, tr_last, tr_aast, tr_newa, tr_anew, tr_new, tr_callV, tr_callS, tr_callI, tr_obj, tr_iret, tr_zret, tr_lret, tr_aret, tr_ret, Nat.reduceAdd, Nat.reduceMul, Nat.reduceDiv, Nat.reduceEqDiff, Nat.reduceLT, Nat.reduceLeDiff, ↓reduceIte, true_and, and_true, true_or, or_true, List.length_nil, List.length_cons, List.nil_append, List.cons_append, Option.toList_some, Option.toList_none, and_self, or_false, false_or, false_and, and_false, imp_self, forall_const, Nat.one_ne_zero, Nat.succ_ne_self, not_true_eq_false, not_false_eq_true, reduceCtorEq, Nat.add_eq_right, Nat.add_eq_left, Nat.add_left_cancel_iff, Nat.zero_add, Int32.reduceLT, Int32.reduceLE, Int32.reduceAdd, Int32.reduceSub, Int32.reduceMul, lg_cmp_ge, lg_cmp_le, lg_cmp_gt, lg_cmp_lt, lg_cmp_eq, i10, i01, eq_self, false_implies, true_implies, implies_true, mK_sI, mK_sL, mK_sR, mK_nw, mN_sI, mN_sL, mN_sR, mN_nw, mI_sI, mI_sL, mI_sR, mI_nw, mL_sI, mL_sL, mL_sR, mL_nw, mR_sI, mR_sL, mR_sR, mR_nw, mS_sI, mS_sL, mS_sR, mS_nw, mU_sI, mU_sL, mU_sR, mU_nw, go_1, csj, inl, lgn, lgc, nI_neg (show n < 2 ^ 31 by omega), nI_le2 (n := 16) (L := 16) rfl (show n < 2 ^ 31 by omega) (by decide), h16, hk, a_X9_renew_0, a_X9_renew_1, a_X9_renew_4, a_X9_renew_5, a_X9_renew_7, a_X9_renew_10, a_X9_renew_11, a_X9_renew_12, a_X9_renew_13, a_X9_renew_16, a_X9_renew_17, a_X9_renew_18, a_X9_renew_21, a_X9_renew_22, a_X9_renew_23, a_X9_renew_24, a_X9_renew_25, a_X9_renew_28, a_X9_renew_29, a_X9_renew_32, a_X9_renew_33, a_X9_renew_34, a_X9_renew_35, a_X9_renew_38, a_X9_renew_41]
    have := l_renew (D := D) (d := d) (M0 := M) (M := sI (sI M 901 a' 0 lane) 902 a' 0 (nI n)) (a := a') (b := b) (n := n) (Q := Q) (x1 := lane) hk hr hb hn h16 hq n 0 (by omega)
    rw [clr0_0, wL_id] at this
    refine wp_sub ?_ this
    rw [nI_0]
    intro q hq
    simp only [List.mem_cons, List.not_mem_nil, or_false] at hq ⊢
    rcases hq with rfl | rfl | rfl | rfl <;> simp
/-- what is there, before and after a scene is shut -/
theorem gone_cnt (th sc : Nat → Int32) (s : Int32) (n : Nat) : ∀ i, i ≤ n → cnt th n = cnt (gone th sc s i) n + gcnt th sc s i := by
  intro i
  induction i with
  | zero =>
    intro _
    rw [show gone th sc s 0 = th from by funext j; simp [gone]]
    simp [gcnt]
  | succ i ih =>
    intro hi
    have h1 := ih (by omega)
    rw [gcnt]
    by_cases e : ¬ th i = 0 ∧ sc i = s
    · rw [if_pos e]
      have h2 : cnt (gone th sc s i) n = cnt (gone th sc s (i + 1)) n + 1 := cnt_off (j := i) (by rw [gone_s _ _ _ _ e]; simp) (by simp [gone, e.1]) (fun j hj => by rw [gone_s _ _ _ _ e]; simp [hj]) n (by omega)
      omega
    · rw [if_neg e, gone_k _ _ _ _ e]; exact h1
theorem uI_wcI (c : Core) (k : Nat) (f : Nat → Int32) (i : Nat) (v : Int32) : uI (wcI c k f) k i v = wcI c k (fun j => if j = i then v else f j) := by
  refine Prod.ext ?_ rfl
  funext k' i'
  show (if k' = k ∧ i' = i then v else if k' = k then f i' else c.1 k' i') = if k' = k then (if i' = i then v else f i') else c.1 k' i'
  by_cases e : k' = k <;> by_cases e2 : i' = i <;> simp [e, e2]
theorem wcI_id (c : Core) (k : Nat) : wcI c k (kI c k) = c := by
  refine Prod.ext ?_ rfl
  funext k' i'
  show (if k' = k then c.1 k i' else c.1 k' i') = c.1 k' i'
  by_cases e : k' = k
  · rw [if_pos e, e]
  · rw [if_neg e]
set_option maxRecDepth 20000 in
theorem l_shut2 {D : DD} {d : Nat} {M0 M1 : Mem} {x s : Nat} {c c0 : Core} {nk : Nat} {ka : Nat → Nat} {ns nl : Nat} {la : Nat → Nat} {Q : Qt} {tb : Int32} (hS : SH M1 x) (htb : tb = nI (cnt (fun l => (kI c 13 (l))) nl))
    (hq : ∀ M', Fx [509, 204] [] [] M1 M' → Cln M' → RLs M' x (wcI c 13 (gone (kI c 13) (kI c 9) (nI s) nl)) nk ka ns nl la → RS M' x (wcI c 13 (gone (kI c 13) (kI c 9) (nI s) nl)) ns nl → Q M' (some (.int (nI (gcnt (kI c 13) (kI c 9) (nI s) nl))))) :
    ∀ (r i : Nat) (M : Mem), i + r = nl → Fx [509, 204] [] [] M1 M → Cln M → RLs M x (wcI c 13 (gone (kI c 13) (kI c 9) (nI s) i)) nk ka ns nl la → RS M x (wcI c 13 (gone (kI c 13) (kI c 9) (nI s) i)) ns nl →
    wp D (d + 7) mi_X2_shut M0 M 34 [(0, .ref (x + 4)), (1, .int (nI s)), (2, .int tb), (3, .int (nI i))] [] Q := by
  intro r
  induction r with
  | zero =>
    intro i M hi F hc L C
    have e : nl = i := by omega
    subst e
    have S := SH_fx F (by decide) (by decide) hS
    have l1 := rl_come L
    have l2 := rs_there C
    refine runL 34 (tbk_X2_shut (csj_c mn_X2_isOpen (c_isOpen (x := x) (c := c0) (ns := ns) (nl := nl)) (csj_n (Jok 6 d)))) 40 ?_
    simp -implicitDefEqProofs +decide only [go_0, pI_i, pL_i, pA_i, pA_s, pV_i, oI_i, oL_i, oV_i, lk, rm1, rm2, isR_rf, isR_ref, isR_null, rfo_rf, rfo_ref, rfo_null, rf_some, rf_none, rf_eq_null, rf_eq_ref, ↓nl_n, ↓nl_r, nl_rf, cat_i, cat_l, cat_r, cat_n, cat_rf, lv_args, pN_0, pN_s, tr_ic, tr_lc, tr_null, tr_iload, tr_lload, tr_aload, tr_istore, tr_lstore, tr_astore, tr_iinc, tr_iadd, tr_isub, tr_imul, tr_iand, tr_irem, tr_ladd, tr_lsub, tr_land, tr_lor, tr_lshl, tr_ldiv, tr_lrem, tr_i2l, tr_l2i, tr_i2b, tr_lcmp, tr_dup, tr_dup2, tr_pop, tr_goto, tr_ifeq, tr_ifne, tr_iflt, tr_ifge, tr_ifgt, tr_ifle, tr_iceq, tr_icne, tr_iclt, tr_icge, tr_icgt, tr_icle, tr_ifnull, tr_ifnonnull, tr_sw, tr_getI, tr_getL, tr_getR, tr_putI, tr_putZ, tr_putL, tr_putR, tr_iald, tr_lald, tr_bald, tr_aald, tr_alen, tr_iast, tr_bast, tr_last, tr_aast, tr_newa, tr_anew, tr_new, tr_callV, tr_callS, tr_callI, tr_obj, tr_iret, tr_zret, tr_lret, tr_aret, tr_ret, Nat.reduceAdd, Nat.reduceMul, Nat.reduceDiv, Nat.reduceEqDiff, Nat.reduceLT, Nat.reduceLeDiff, ↓reduceIte, true_and, and_true, true_or, or_true, List.length_nil, List.length_cons, List.nil_append, List.cons_append, Option.toList_some, Option.toList_none, and_self, or_false, false_or, false_and, and_false, imp_self, forall_const, Nat.one_ne_zero, Nat.succ_ne_self, not_true_eq_false, not_false_eq_true, reduceCtorEq, Nat.add_eq_right, Nat.add_eq_left, Nat.add_left_cancel_iff, Nat.zero_add, Int32.reduceLT, Int32.reduceLE, Int32.reduceAdd, Int32.reduceSub, Int32.reduceMul, lg_cmp_ge, lg_cmp_le, lg_cmp_gt, lg_cmp_lt, lg_cmp_eq, i10, i01, eq_self, false_implies, true_implies, implies_true, mK_sI, mK_sL, mK_sR, mK_nw, mN_sI, mN_sL, mN_sR, mN_nw, mI_sI, mI_sL, mI_sR, mI_nw, mL_sI, mL_sL, mL_sR, mL_nw, mR_sI, mR_sL, mR_sR, mR_nw, mS_sI, mS_sL, mS_sR, mS_nw, mU_sI, mU_sL, mU_sR, mU_nw, go_1, csj, inl, lgn, lgc, sh_x S, (sh_k2 S).1, (sh_k2 S).2, (sh_k4 S).1, (sh_k4 S).2, (sh_k9 S).1, (sh_k9 S).2, (sh_k12 S).1, (sh_k12 S).2, (sh_k1 S).1, (sh_k1 S).2, (sh_k17 S).1, (sh_k17 S).2, (sh_k3 S).1, (sh_k3 S).2, (sh_k5 S).1, (sh_k5 S).2, (sh_k6 S).1, (sh_k6 S).2, (sh_k7 S).1, (sh_k7 S).2, (sh_k8 S).1, (sh_k8 S).2, (sh_k10 S).1, (sh_k10 S).2, (sh_k11 S).1, (sh_k11 S).2, (sh_k13 S).1, (sh_k13 S).2, (sh_k14 S).1, (sh_k14 S).2, (sh_k15 S).1, (sh_k15 S).2, (sh_k16 S).1, (sh_k16 S).2, (sh_k18 S).1, (sh_k18 S).2, (sh_k19 S).1, (sh_k19 S).2, (sh_k20 S).1, (sh_k20 S).2, sh_Desk_teller S, sh_Desk_kinds S, sh_Desk_house S, sh_Desk_trays S, sh_Desk_acts S, sh_Desk_report S, sh_Kinds_all S, sh_House_all S, sh_House_firsts S, sh_House_open S, sh_Acts_of S, sh_Acts_values S, sh_Report_log S, sh_Report_failureOf S, sh_Report_failureBy S, sh_Report_failureAt S, sh_Teller_kinds S, sh_Teller_house S, sh_Teller_trays S, sh_Teller_acts S, sh_Teller_report S, sh_Teller_waiting S, sh_Teller_cues S, sh_Waiting_of S, sh_Waiting_values S, l1, l2, Int32.le_refl, a_X2_shut_0, a_X2_shut_1, a_X2_shut_2, a_X2_shut_5, a_X2_shut_8, a_X2_shut_9, a_X2_shut_10, a_X2_shut_11, a_X2_shut_14, a_X2_shut_15, a_X2_shut_16, a_X2_shut_17, a_X2_shut_18, a_X2_shut_19, a_X2_shut_22, a_X2_shut_23, a_X2_shut_24, a_X2_shut_27, a_X2_shut_28, a_X2_shut_31, a_X2_shut_32, a_X2_shut_33, a_X2_shut_34, a_X2_shut_35, a_X2_shut_36, a_X2_shut_39, a_X2_shut_42, a_X2_shut_43, a_X2_shut_46, a_X2_shut_47, a_X2_shut_48, a_X2_shut_50, a_X2_shut_52, a_X2_shut_55, a_X2_shut_57, a_X2_shut_60, a_X2_shut_61, a_X2_shut_64, a_X2_shut_65, a_X2_shut_67, a_X2_shut_70, a_X2_shut_73, a_X2_shut_76, a_X2_shut_77, a_X2_shut_78, a_X2_shut_81, a_X2_shut_82]
    have hz := hq M F hc L C
    have hg := gone_cnt (fun l => (kI c 13 (l))) (kI c 9) (nI s) nl nl (by omega)
    have e2 : tb - nI (cnt (fun l => kI (wcI c 13 (gone (kI c 13) (kI c 9) (nI s) nl)) 13 l) nl) = nI (gcnt (kI c 13) (kI c 9) (nI s) nl) := by
      rw [htb, hg]
      rw [show (fun l => kI (wcI c 13 (gone (kI c 13) (kI c 9) (nI s) nl)) 13 l) = gone (fun l => (kI c 13 (l))) (kI c 9) (nI s) nl from rfl]
      rw [pk_sub (by omega)]
      congr 1
      have : gcnt (fun l => (kI c 13 (l))) (kI c 9) (nI s) nl = gcnt (kI c 13) (kI c 9) (nI s) nl := rfl
      omega
    rw [e2]
    exact hz
  | succ r ih =>
    intro i M hi F hc L C
    have S := SH_fx F (by decide) (by decide) hS
    have hil : i < nl := by omega
    have I := rl_i L i hil
    have l1 := rl_come L
    have l3 := li_at I
    have l4 := li_k I
    have l5 : (mI M 504 (la i) 0) = kI c 9 i := by
      have := li_scene I
      simp only [kI_wcI, Nat.reduceEqDiff, if_false] at this
      exact this
    have l6 : (mI M 509 (la i) 0) = kI c 13 i := by
      rw [li_there I]
      show gone (kI c 13) (kI c 9) (nI s) i i = kI c 13 i
      simp [gone]
    have nl200 := rl_le L
    by_cases e1 : kI c 9 i = nI s
    · by_cases e2 : kI c 13 i = 0
      · refine runL 34 (tbk_X2_shut (csj_c mn_X2_isOpen (c_isOpen (x := x) (c := c0) (ns := ns) (nl := nl)) (csj_n (Jok 6 d)))) 60 ?_
        simp -implicitDefEqProofs +decide only [go_0, pI_i, pL_i, pA_i, pA_s, pV_i, oI_i, oL_i, oV_i, lk, rm1, rm2, isR_rf, isR_ref, isR_null, rfo_rf, rfo_ref, rfo_null, rf_some, rf_none, rf_eq_null, rf_eq_ref, ↓nl_n, ↓nl_r, nl_rf, cat_i, cat_l, cat_r, cat_n, cat_rf, lv_args, pN_0, pN_s, tr_ic, tr_lc, tr_null, tr_iload, tr_lload, tr_aload, tr_istore, tr_lstore, tr_astore, tr_iinc, tr_iadd, tr_isub, tr_imul, tr_iand, tr_irem, tr_ladd, tr_lsub, tr_land, tr_lor, tr_lshl, tr_ldiv, tr_lrem, tr_i2l, tr_l2i, tr_i2b, tr_lcmp, tr_dup, tr_dup2, tr_pop, tr_goto, tr_ifeq, tr_ifne, tr_iflt, tr_ifge, tr_ifgt, tr_ifle, tr_iceq, tr_icne, tr_iclt, tr_icge, tr_icgt, tr_icle, tr_ifnull, tr_ifnonnull, tr_sw, tr_getI, tr_getL, tr_getR, tr_putI, tr_putZ, tr_putL, tr_putR, tr_iald, tr_lald, tr_bald, tr_aald, tr_alen, tr_iast, tr_bast, tr_last, tr_aast, tr_newa, tr_anew, tr_new, tr_callV, tr_callS, tr_callI, tr_obj, tr_iret, tr_zret, tr_lret, tr_aret, tr_ret, Nat.reduceAdd, Nat.reduceMul, Nat.reduceDiv, Nat.reduceEqDiff, Nat.reduceLT, Nat.reduceLeDiff, ↓reduceIte, true_and, and_true, true_or, or_true, List.length_nil, List.length_cons, List.nil_append, List.cons_append, Option.toList_some, Option.toList_none, and_self, or_false, false_or, false_and, and_false, imp_self, forall_const, Nat.one_ne_zero, Nat.succ_ne_self, not_true_eq_false, not_false_eq_true, reduceCtorEq, Nat.add_eq_right, Nat.add_eq_left, Nat.add_left_cancel_iff, Nat.zero_add, Int32.reduceLT, Int32.reduceLE, Int32.reduceAdd, Int32.reduceSub, Int32.reduceMul, lg_cmp_ge, lg_cmp_le, lg_cmp_gt, lg_cmp_lt, lg_cmp_eq, i10, i01, eq_self, false_implies, true_implies, implies_true, mK_sI, mK_sL, mK_sR, mK_nw, mN_sI, mN_sL, mN_sR, mN_nw, mI_sI, mI_sL, mI_sR, mI_nw, mL_sI, mL_sL, mL_sR, mL_nw, mR_sI, mR_sL, mR_sR, mR_nw, mS_sI, mS_sL, mS_sR, mS_nw, mU_sI, mU_sL, mU_sR, mU_nw, go_1, csj, inl, lgn, lgc, J_X2_letGo, a_X2_letGo_0, a_X2_letGo_1, a_X2_letGo_4, a_X2_letGo_7, a_X2_letGo_8, a_X2_letGo_9, a_X2_letGo_10, a_X2_letGo_13, a_X2_letGo_14, a_X2_letGo_15, a_X2_letGo_18, a_X2_letGo_19, a_X2_letGo_20, a_X2_letGo_23, sh_x S, (sh_k2 S).1, (sh_k2 S).2, (sh_k4 S).1, (sh_k4 S).2, (sh_k9 S).1, (sh_k9 S).2, (sh_k12 S).1, (sh_k12 S).2, (sh_k1 S).1, (sh_k1 S).2, (sh_k17 S).1, (sh_k17 S).2, (sh_k3 S).1, (sh_k3 S).2, (sh_k5 S).1, (sh_k5 S).2, (sh_k6 S).1, (sh_k6 S).2, (sh_k7 S).1, (sh_k7 S).2, (sh_k8 S).1, (sh_k8 S).2, (sh_k10 S).1, (sh_k10 S).2, (sh_k11 S).1, (sh_k11 S).2, (sh_k13 S).1, (sh_k13 S).2, (sh_k14 S).1, (sh_k14 S).2, (sh_k15 S).1, (sh_k15 S).2, (sh_k16 S).1, (sh_k16 S).2, (sh_k18 S).1, (sh_k18 S).2, (sh_k19 S).1, (sh_k19 S).2, (sh_k20 S).1, (sh_k20 S).2, sh_Desk_teller S, sh_Desk_kinds S, sh_Desk_house S, sh_Desk_trays S, sh_Desk_acts S, sh_Desk_report S, sh_Kinds_all S, sh_House_all S, sh_House_firsts S, sh_House_open S, sh_Acts_of S, sh_Acts_values S, sh_Report_log S, sh_Report_failureOf S, sh_Report_failureBy S, sh_Report_failureAt S, sh_Teller_kinds S, sh_Teller_house S, sh_Teller_trays S, sh_Teller_acts S, sh_Teller_report S, sh_Teller_waiting S, sh_Teller_cues S, sh_Waiting_of S, sh_Waiting_values S, l1, l3, l4, l5, l6, e1, e2, nI_nge hil (show nl < 2 ^ 31 by omega), nI_clamp (show i < 2 ^ 31 by omega), vp_in_nI (show i < 200 by omega) (by decide), a_X2_shut_0, a_X2_shut_1, a_X2_shut_2, a_X2_shut_5, a_X2_shut_8, a_X2_shut_9, a_X2_shut_10, a_X2_shut_11, a_X2_shut_14, a_X2_shut_15, a_X2_shut_16, a_X2_shut_17, a_X2_shut_18, a_X2_shut_19, a_X2_shut_22, a_X2_shut_23, a_X2_shut_24, a_X2_shut_27, a_X2_shut_28, a_X2_shut_31, a_X2_shut_32, a_X2_shut_33, a_X2_shut_34, a_X2_shut_35, a_X2_shut_36, a_X2_shut_39, a_X2_shut_42, a_X2_shut_43, a_X2_shut_46, a_X2_shut_47, a_X2_shut_48, a_X2_shut_50, a_X2_shut_52, a_X2_shut_55, a_X2_shut_57, a_X2_shut_60, a_X2_shut_61, a_X2_shut_64, a_X2_shut_65, a_X2_shut_67, a_X2_shut_70, a_X2_shut_73, a_X2_shut_76, a_X2_shut_77, a_X2_shut_78, a_X2_shut_81, a_X2_shut_82]
        have := ih (i + 1) M (by omega) F hc (by rw [gone_k _ _ _ _ (fun q => q.1 e2)]; exact L) (by rw [gone_k _ _ _ _ (fun q => q.1 e2)]; exact C)
        refine fun _ _ => wp_sub ?_ this
        rw [nI_succ]
        intro q hq
        simp only [List.mem_cons, List.not_mem_nil, or_false] at hq ⊢
        rcases hq with rfl | rfl | rfl | rfl <;> simp
      · refine runL 34 (tbk_X2_shut (csj_c mn_X2_isOpen (c_isOpen (x := x) (c := c0) (ns := ns) (nl := nl)) (csj_n (Jok 6 d)))) 60 ?_
        simp -implicitDefEqProofs +decide only [go_0, pI_i, pL_i, pA_i, pA_s, pV_i, oI_i, oL_i, oV_i, lk, rm1, rm2, isR_rf, isR_ref, isR_null, rfo_rf, rfo_ref, rfo_null, rf_some, rf_none, rf_eq_null, rf_eq_ref, ↓nl_n, ↓nl_r, nl_rf, cat_i, cat_l, cat_r, cat_n, cat_rf, lv_args, pN_0, pN_s, tr_ic, tr_lc, tr_null, tr_iload, tr_lload, tr_aload, tr_istore, tr_lstore, tr_astore, tr_iinc, tr_iadd, tr_isub, tr_imul, tr_iand, tr_irem, tr_ladd, tr_lsub, tr_land, tr_lor, tr_lshl, tr_ldiv, tr_lrem, tr_i2l, tr_l2i, tr_i2b, tr_lcmp, tr_dup, tr_dup2, tr_pop, tr_goto, tr_ifeq, tr_ifne, tr_iflt, tr_ifge, tr_ifgt, tr_ifle, tr_iceq, tr_icne, tr_iclt, tr_icge, tr_icgt, tr_icle, tr_ifnull, tr_ifnonnull, tr_sw, tr_getI, tr_getL, tr_getR, tr_putI, tr_putZ, tr_putL, tr_putR, tr_iald, tr_lald, tr_bald, tr_aald, tr_alen, tr_iast, tr_bast, tr_last, tr_aast, tr_newa, tr_anew, tr_new, tr_callV, tr_callS, tr_callI, tr_obj, tr_iret, tr_zret, tr_lret, tr_aret, tr_ret, Nat.reduceAdd, Nat.reduceMul, Nat.reduceDiv, Nat.reduceEqDiff, Nat.reduceLT, Nat.reduceLeDiff, ↓reduceIte, true_and, and_true, true_or, or_true, List.length_nil, List.length_cons, List.nil_append, List.cons_append, Option.toList_some, Option.toList_none, and_self, or_false, false_or, false_and, and_false, imp_self, forall_const, Nat.one_ne_zero, Nat.succ_ne_self, not_true_eq_false, not_false_eq_true, reduceCtorEq, Nat.add_eq_right, Nat.add_eq_left, Nat.add_left_cancel_iff, Nat.zero_add, Int32.reduceLT, Int32.reduceLE, Int32.reduceAdd, Int32.reduceSub, Int32.reduceMul, lg_cmp_ge, lg_cmp_le, lg_cmp_gt, lg_cmp_lt, lg_cmp_eq, i10, i01, eq_self, false_implies, true_implies, implies_true, mK_sI, mK_sL, mK_sR, mK_nw, mN_sI, mN_sL, mN_sR, mN_nw, mI_sI, mI_sL, mI_sR, mI_nw, mL_sI, mL_sL, mL_sR, mL_nw, mR_sI, mR_sL, mR_sR, mR_nw, mS_sI, mS_sL, mS_sR, mS_nw, mU_sI, mU_sL, mU_sR, mU_nw, go_1, csj, inl, lgn, lgc, J_X2_letGo, a_X2_letGo_0, a_X2_letGo_1, a_X2_letGo_4, a_X2_letGo_7, a_X2_letGo_8, a_X2_letGo_9, a_X2_letGo_10, a_X2_letGo_13, a_X2_letGo_14, a_X2_letGo_15, a_X2_letGo_18, a_X2_letGo_19, a_X2_letGo_20, a_X2_letGo_23, sh_x S, (sh_k2 S).1, (sh_k2 S).2, (sh_k4 S).1, (sh_k4 S).2, (sh_k9 S).1, (sh_k9 S).2, (sh_k12 S).1, (sh_k12 S).2, (sh_k1 S).1, (sh_k1 S).2, (sh_k17 S).1, (sh_k17 S).2, (sh_k3 S).1, (sh_k3 S).2, (sh_k5 S).1, (sh_k5 S).2, (sh_k6 S).1, (sh_k6 S).2, (sh_k7 S).1, (sh_k7 S).2, (sh_k8 S).1, (sh_k8 S).2, (sh_k10 S).1, (sh_k10 S).2, (sh_k11 S).1, (sh_k11 S).2, (sh_k13 S).1, (sh_k13 S).2, (sh_k14 S).1, (sh_k14 S).2, (sh_k15 S).1, (sh_k15 S).2, (sh_k16 S).1, (sh_k16 S).2, (sh_k18 S).1, (sh_k18 S).2, (sh_k19 S).1, (sh_k19 S).2, (sh_k20 S).1, (sh_k20 S).2, sh_Desk_teller S, sh_Desk_kinds S, sh_Desk_house S, sh_Desk_trays S, sh_Desk_acts S, sh_Desk_report S, sh_Kinds_all S, sh_House_all S, sh_House_firsts S, sh_House_open S, sh_Acts_of S, sh_Acts_values S, sh_Report_log S, sh_Report_failureOf S, sh_Report_failureBy S, sh_Report_failureAt S, sh_Teller_kinds S, sh_Teller_house S, sh_Teller_trays S, sh_Teller_acts S, sh_Teller_report S, sh_Teller_waiting S, sh_Teller_cues S, sh_Waiting_of S, sh_Waiting_values S, l1, l3, l4, l5, l6, e1, e2, nI_nge hil (show nl < 2 ^ 31 by omega), nI_clamp (show i < 2 ^ 31 by omega), vp_in_nI (show i < 200 by omega) (by decide), a_X2_shut_0, a_X2_shut_1, a_X2_shut_2, a_X2_shut_5, a_X2_shut_8, a_X2_shut_9, a_X2_shut_10, a_X2_shut_11, a_X2_shut_14, a_X2_shut_15, a_X2_shut_16, a_X2_shut_17, a_X2_shut_18, a_X2_shut_19, a_X2_shut_22, a_X2_shut_23, a_X2_shut_24, a_X2_shut_27, a_X2_shut_28, a_X2_shut_31, a_X2_shut_32, a_X2_shut_33, a_X2_shut_34, a_X2_shut_35, a_X2_shut_36, a_X2_shut_39, a_X2_shut_42, a_X2_shut_43, a_X2_shut_46, a_X2_shut_47, a_X2_shut_48, a_X2_shut_50, a_X2_shut_52, a_X2_shut_55, a_X2_shut_57, a_X2_shut_60, a_X2_shut_61, a_X2_shut_64, a_X2_shut_65, a_X2_shut_67, a_X2_shut_70, a_X2_shut_73, a_X2_shut_76, a_X2_shut_77, a_X2_shut_78, a_X2_shut_81, a_X2_shut_82]
        have g1 : uI (wcI c 13 (gone (kI c 13) (kI c 9) (nI s) i)) 13 i 0 = wcI c 13 (gone (kI c 13) (kI c 9) (nI s) (i + 1)) := by rw [uI_wcI, gone_s _ _ _ _ ⟨e2, e1⟩]
        have L2 := RLs_w_there (v := 0) (Or.inl rfl) L hil
        have ht : ¬ kI (wcI c 13 (gone (kI c 13) (kI c 9) (nI s) i)) 13 i = 0 := by
          show ¬ gone (kI c 13) (kI c 9) (nI s) i i = 0
          simp [gone, e2]
        have := ih (i + 1) (sI (sI M 509 (la i) 0 0) 204 (x + 4) 0 ((mI M 204 (x + 4) 0) - 1)) (by omega) ((F.sI (by decide)).sI (by decide)) (by
          refine cl_sI (cl_sI hc ?_) ?_
          · rw [l4]; decide
          · rw [mK_sI, (sh_k4 S).1]; decide) (by rw [← g1, RLs_sI (by decide) (by decide) (by decide) (by decide) (by decide) (by decide) (by decide) (by decide) (by decide) (by decide) (by decide) (by decide)]; exact L2) (by rw [← g1]; exact RS_go C hil ht (by simp only [mK_sI, mK_sL, mK_sR, mK_nw, mN_sI, mN_sL, mN_sR, mN_nw, mI_sI, mI_sL, mI_sR, mI_nw, mL_sI, mL_sL, mL_sR, mL_nw, mR_sI, mR_sL, mR_sR, mR_nw, mS_sI, mS_sL, mS_sR, mS_nw, mU_sI, mU_sL, mU_sR, mU_nw, true_and, mI_wI, mI_wL, mL_wI, mL_wL, mR_wI, mR_wL, Nat.reduceEqDiff, false_and, if_false, and_self, if_true, implies_true]) (fun s => by simp only [mK_sI, mK_sL, mK_sR, mK_nw, mN_sI, mN_sL, mN_sR, mN_nw, mI_sI, mI_sL, mI_sR, mI_nw, mL_sI, mL_sL, mL_sR, mL_nw, mR_sI, mR_sL, mR_sR, mR_nw, mS_sI, mS_sL, mS_sR, mS_nw, mU_sI, mU_sL, mU_sR, mU_nw, true_and, mI_wI, mI_wL, mL_wI, mL_wL, mR_wI, mR_wL, Nat.reduceEqDiff, false_and, if_false, and_self, if_true, implies_true]) (by simp only [mK_sI, mK_sL, mK_sR, mK_nw, mN_sI, mN_sL, mN_sR, mN_nw, mI_sI, mI_sL, mI_sR, mI_nw, mL_sI, mL_sL, mL_sR, mL_nw, mR_sI, mR_sL, mR_sR, mR_nw, mS_sI, mS_sL, mS_sR, mS_nw, mU_sI, mU_sL, mU_sR, mU_nw, true_and, mI_wI, mI_wL, mL_wI, mL_wL, mR_wI, mR_wL, Nat.reduceEqDiff, false_and, if_false, and_self, if_true, implies_true]) (by simp only [mK_sI, mK_sL, mK_sR, mK_nw, mN_sI, mN_sL, mN_sR, mN_nw, mI_sI, mI_sL, mI_sR, mI_nw, mL_sI, mL_sL, mL_sR, mL_nw, mR_sI, mR_sL, mR_sR, mR_nw, mS_sI, mS_sL, mS_sR, mS_nw, mU_sI, mU_sL, mU_sR, mU_nw, true_and, mI_wI, mI_wL, mL_wI, mL_wL, mR_wI, mR_wL, Nat.reduceEqDiff, false_and, if_false, and_self, if_true, implies_true]))
        refine fun _ _ => wp_sub ?_ this
        rw [nI_succ]
        intro q hq
        simp only [List.mem_cons, List.not_mem_nil, or_false] at hq ⊢
        rcases hq with rfl | rfl | rfl | rfl <;> simp
    · refine runL 34 (tbk_X2_shut (csj_c mn_X2_isOpen (c_isOpen (x := x) (c := c0) (ns := ns) (nl := nl)) (csj_n (Jok 6 d)))) 60 ?_
      simp -implicitDefEqProofs +decide only [go_0, pI_i, pL_i, pA_i, pA_s, pV_i, oI_i, oL_i, oV_i, lk, rm1, rm2, isR_rf, isR_ref, isR_null, rfo_rf, rfo_ref, rfo_null, rf_some, rf_none, rf_eq_null, rf_eq_ref, ↓nl_n, ↓nl_r, nl_rf, cat_i, cat_l, cat_r, cat_n, cat_rf, lv_args, pN_0, pN_s, tr_ic, tr_lc, tr_null, tr_iload, tr_lload, tr_aload, tr_istore, tr_lstore, tr_astore, tr_iinc, tr_iadd, tr_isub, tr_imul, tr_iand, tr_irem, tr_ladd, tr_lsub, tr_land, tr_lor, tr_lshl, tr_ldiv, tr_lrem, tr_i2l, tr_l2i, tr_i2b, tr_lcmp, tr_dup, tr_dup2, tr_pop, tr_goto, tr_ifeq, tr_ifne, tr_iflt, tr_ifge, tr_ifgt, tr_ifle, tr_iceq, tr_icne, tr_iclt, tr_icge, tr_icgt, tr_icle, tr_ifnull, tr_ifnonnull, tr_sw, tr_getI, tr_getL, tr_getR, tr_putI, tr_putZ, tr_putL, tr_putR, tr_iald, tr_lald, tr_bald, tr_aald, tr_alen, tr_iast, tr_bast, tr_last, tr_aast, tr_newa, tr_anew, tr_new, tr_callV, tr_callS, tr_callI, tr_obj, tr_iret, tr_zret, tr_lret, tr_aret, tr_ret, Nat.reduceAdd, Nat.reduceMul, Nat.reduceDiv, Nat.reduceEqDiff, Nat.reduceLT, Nat.reduceLeDiff, ↓reduceIte, true_and, and_true, true_or, or_true, List.length_nil, List.length_cons, List.nil_append, List.cons_append, Option.toList_some, Option.toList_none, and_self, or_false, false_or, false_and, and_false, imp_self, forall_const, Nat.one_ne_zero, Nat.succ_ne_self, not_true_eq_false, not_false_eq_true, reduceCtorEq, Nat.add_eq_right, Nat.add_eq_left, Nat.add_left_cancel_iff, Nat.zero_add, Int32.reduceLT, Int32.reduceLE, Int32.reduceAdd, Int32.reduceSub, Int32.reduceMul, lg_cmp_ge, lg_cmp_le, lg_cmp_gt, lg_cmp_lt, lg_cmp_eq, i10, i01, eq_self, false_implies, true_implies, implies_true, mK_sI, mK_sL, mK_sR, mK_nw, mN_sI, mN_sL, mN_sR, mN_nw, mI_sI, mI_sL, mI_sR, mI_nw, mL_sI, mL_sL, mL_sR, mL_nw, mR_sI, mR_sL, mR_sR, mR_nw, mS_sI, mS_sL, mS_sR, mS_nw, mU_sI, mU_sL, mU_sR, mU_nw, go_1, csj, inl, lgn, lgc, J_X2_letGo, a_X2_letGo_0, a_X2_letGo_1, a_X2_letGo_4, a_X2_letGo_7, a_X2_letGo_8, a_X2_letGo_9, a_X2_letGo_10, a_X2_letGo_13, a_X2_letGo_14, a_X2_letGo_15, a_X2_letGo_18, a_X2_letGo_19, a_X2_letGo_20, a_X2_letGo_23, sh_x S, (sh_k2 S).1, (sh_k2 S).2, (sh_k4 S).1, (sh_k4 S).2, (sh_k9 S).1, (sh_k9 S).2, (sh_k12 S).1, (sh_k12 S).2, (sh_k1 S).1, (sh_k1 S).2, (sh_k17 S).1, (sh_k17 S).2, (sh_k3 S).1, (sh_k3 S).2, (sh_k5 S).1, (sh_k5 S).2, (sh_k6 S).1, (sh_k6 S).2, (sh_k7 S).1, (sh_k7 S).2, (sh_k8 S).1, (sh_k8 S).2, (sh_k10 S).1, (sh_k10 S).2, (sh_k11 S).1, (sh_k11 S).2, (sh_k13 S).1, (sh_k13 S).2, (sh_k14 S).1, (sh_k14 S).2, (sh_k15 S).1, (sh_k15 S).2, (sh_k16 S).1, (sh_k16 S).2, (sh_k18 S).1, (sh_k18 S).2, (sh_k19 S).1, (sh_k19 S).2, (sh_k20 S).1, (sh_k20 S).2, sh_Desk_teller S, sh_Desk_kinds S, sh_Desk_house S, sh_Desk_trays S, sh_Desk_acts S, sh_Desk_report S, sh_Kinds_all S, sh_House_all S, sh_House_firsts S, sh_House_open S, sh_Acts_of S, sh_Acts_values S, sh_Report_log S, sh_Report_failureOf S, sh_Report_failureBy S, sh_Report_failureAt S, sh_Teller_kinds S, sh_Teller_house S, sh_Teller_trays S, sh_Teller_acts S, sh_Teller_report S, sh_Teller_waiting S, sh_Teller_cues S, sh_Waiting_of S, sh_Waiting_values S, l1, l3, l4, l5, l6, e1, nI_nge hil (show nl < 2 ^ 31 by omega), nI_clamp (show i < 2 ^ 31 by omega), vp_in_nI (show i < 200 by omega) (by decide), a_X2_shut_0, a_X2_shut_1, a_X2_shut_2, a_X2_shut_5, a_X2_shut_8, a_X2_shut_9, a_X2_shut_10, a_X2_shut_11, a_X2_shut_14, a_X2_shut_15, a_X2_shut_16, a_X2_shut_17, a_X2_shut_18, a_X2_shut_19, a_X2_shut_22, a_X2_shut_23, a_X2_shut_24, a_X2_shut_27, a_X2_shut_28, a_X2_shut_31, a_X2_shut_32, a_X2_shut_33, a_X2_shut_34, a_X2_shut_35, a_X2_shut_36, a_X2_shut_39, a_X2_shut_42, a_X2_shut_43, a_X2_shut_46, a_X2_shut_47, a_X2_shut_48, a_X2_shut_50, a_X2_shut_52, a_X2_shut_55, a_X2_shut_57, a_X2_shut_60, a_X2_shut_61, a_X2_shut_64, a_X2_shut_65, a_X2_shut_67, a_X2_shut_70, a_X2_shut_73, a_X2_shut_76, a_X2_shut_77, a_X2_shut_78, a_X2_shut_81, a_X2_shut_82]
      have := ih (i + 1) M (by omega) F hc (by rw [gone_k _ _ _ _ (fun q => e1 q.2)]; exact L) (by rw [gone_k _ _ _ _ (fun q => e1 q.2)]; exact C)
      refine fun _ _ => wp_sub ?_ this
      rw [nI_succ]
      intro q hq
      simp only [List.mem_cons, List.not_mem_nil, or_false] at hq ⊢
      rcases hq with rfl | rfl | rfl | rfl <;> simp
