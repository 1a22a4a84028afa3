/-! kind, count -/
set_option maxRecDepth 20000 in
theorem l_kind {D : DD} {d : Nat} {M0 M : Mem} {h nk : Nat} {dp : Nat → Nat} {Q : Qt} {x1 : Int32} {C : Nat → Sp} (hC : Snd D d C) (H : RM M h) (hP : Par M h nk dp) {N : Nat}
    (hq : wp D (d + 1) mi_X12_kind M0 M 39 [(0, .ref h), (1, .int x1), (2, .int (nI N))] [] Q) : ∀ (f : Nat) (k : Int32) (n : Nat), ((k = -4 ∧ n = N) ∨ ∃ j, j < nk ∧ dp j < f ∧ k = nI j ∧ n + dp j + 1 = N) →
    wp D (d + 1) mi_X12_kind M0 M 20 [(0, .ref h), (1, .int x1), (2, .int (nI n)), (3, .int k)] [] Q := by
  have base : ∀ n, n = N → wp D (d + 1) mi_X12_kind M0 M 20 [(0, .ref h), (1, .int x1), (2, .int (nI n)), (3, .int (-4))] [] Q := by
    intro n hn
    subst hn
    refine runL 39 (tbk_X12_kind (hC)) 30 ?_
    simp -implicitDefEqProofs +decide only [go_0, pI_i, pL_i, pA_i, pA_s, pV_i, oI_i, oL_i, oV_i, lk, rm1, rm2, isR_rf, isR_ref, isR_null, rfo_rf, rfo_ref, rfo_null, rf_some, rf_none, rf_eq_null, rf_eq_ref, ↓nl_n, ↓nl_r, nl_rf, cat_i, cat_l, cat_r, cat_n, cat_rf, lv_args, pN_0, pN_s, tr_ic, tr_lc, tr_null, tr_iload, tr_lload, tr_aload, tr_istore, tr_lstore, tr_astore, tr_iinc, tr_iadd, tr_isub, tr_imul, tr_iand, tr_irem, tr_ladd, tr_lsub, tr_land, tr_lor, tr_lshl, tr_ldiv, tr_lrem, tr_i2l, tr_l2i, tr_i2b, tr_lcmp, tr_dup, tr_dup2, tr_pop, tr_goto, tr_ifeq, tr_ifne, tr_iflt, tr_ifge, tr_ifgt, tr_ifle, tr_iceq, tr_icne, tr_iclt, tr_icge, tr_icgt, tr_icle, tr_ifnull, tr_ifnonnull, tr_sw, tr_getI, tr_getL, tr_getR, tr_putI, tr_putZ, tr_putL, tr_putR, tr_iald, tr_lald, tr_bald, tr_aald, tr_alen, tr_iast, tr_bast, tr_last, tr_aast, tr_newa, tr_anew, tr_new, tr_callV, tr_callS, tr_callI, tr_obj, tr_iret, tr_zret, tr_lret, tr_aret, tr_ret, Nat.reduceAdd, Nat.reduceMul, Nat.reduceDiv, Nat.reduceEqDiff, Nat.reduceLT, Nat.reduceLeDiff, ↓reduceIte, true_and, and_true, true_or, or_true, List.length_nil, List.length_cons, List.nil_append, List.cons_append, Option.toList_some, Option.toList_none, and_self, or_false, false_or, false_and, and_false, imp_self, forall_const, Nat.one_ne_zero, Nat.succ_ne_self, not_true_eq_false, not_false_eq_true, reduceCtorEq, Nat.add_eq_right, Nat.add_eq_left, Nat.add_left_cancel_iff, Nat.zero_add, Int32.reduceLT, Int32.reduceLE, Int32.reduceAdd, Int32.reduceSub, Int32.reduceMul, lg_cmp_ge, lg_cmp_le, lg_cmp_gt, lg_cmp_lt, lg_cmp_eq, i10, i01, eq_self, false_implies, true_implies, implies_true, mK_sI, mK_sL, mK_sR, mK_nw, mN_sI, mN_sL, mN_sR, mN_nw, mI_sI, mI_sL, mI_sR, mI_nw, mL_sI, mL_sL, mL_sR, mL_nw, mR_sI, mR_sL, mR_sR, mR_nw, mS_sI, mS_sL, mS_sR, mS_nw, mU_sI, mU_sL, mU_sR, mU_nw, go_1, csj, inl, lgn, lgc, RM.k H, a_X12_kind_0, a_X12_kind_1, a_X12_kind_3, a_X12_kind_6, a_X12_kind_7, a_X12_kind_8, a_X12_kind_11, a_X12_kind_14, a_X12_kind_15, a_X12_kind_16, a_X12_kind_17, a_X12_kind_18, a_X12_kind_19, a_X12_kind_20, a_X12_kind_21, a_X12_kind_23, a_X12_kind_26, a_X12_kind_29, a_X12_kind_30, a_X12_kind_33, a_X12_kind_34, a_X12_kind_35, a_X12_kind_36, a_X12_kind_39, a_X12_kind_40, a_X12_kind_42, a_X12_kind_45, a_X12_kind_47, a_X12_kind_48, a_X12_kind_49, a_X12_kind_52, a_X12_kind_54, a_X12_kind_57, a_X12_kind_59, a_X12_kind_60, a_X12_kind_61, a_X12_kind_64, a_X12_kind_65, a_X12_kind_68, a_X12_kind_69, a_X12_kind_70, a_X12_kind_71, a_X12_kind_74, a_X12_kind_75, a_X12_kind_78, a_X12_kind_79, a_X12_kind_80, a_X12_kind_81, a_X12_kind_82, a_X12_kind_85, a_X12_kind_86, a_X12_kind_87, a_X12_kind_90, a_X12_kind_91, a_X12_kind_94, a_X12_kind_95, a_X12_kind_96]
    refine wp_sub ?_ hq
    intro q hq
    simp only [List.mem_cons, List.not_mem_nil, or_false] at hq ⊢
    rcases hq with rfl | rfl | rfl <;> simp
  intro f
  induction f with
  | zero =>
    intro k n hk
    rcases hk with ⟨rfl, hn⟩ | ⟨j, _, h2, _⟩
    · exact base n hn
    · omega
  | succ f ih =>
    intro k n hk
    rcases hk with ⟨rfl, hn⟩ | ⟨j, h1, h2, rfl, h3⟩
    · exact base n hn
    · have hj := hP.1
      refine runL 20 (tbk_X12_kind (hC)) 30 ?_
      simp -implicitDefEqProofs +decide only [go_0, pI_i, pL_i, pA_i, pA_s, pV_i, oI_i, oL_i, oV_i, lk, rm1, rm2, isR_rf, isR_ref, isR_null, rfo_rf, rfo_ref, rfo_null, rf_some, rf_none, rf_eq_null, rf_eq_ref, ↓nl_n, ↓nl_r, nl_rf, cat_i, cat_l, cat_r, cat_n, cat_rf, lv_args, pN_0, pN_s, tr_ic, tr_lc, tr_null, tr_iload, tr_lload, tr_aload, tr_istore, tr_lstore, tr_astore, tr_iinc, tr_iadd, tr_isub, tr_imul, tr_iand, tr_irem, tr_ladd, tr_lsub, tr_land, tr_lor, tr_lshl, tr_ldiv, tr_lrem, tr_i2l, tr_l2i, tr_i2b, tr_lcmp, tr_dup, tr_dup2, tr_pop, tr_goto, tr_ifeq, tr_ifne, tr_iflt, tr_ifge, tr_ifgt, tr_ifle, tr_iceq, tr_icne, tr_iclt, tr_icge, tr_icgt, tr_icle, tr_ifnull, tr_ifnonnull, tr_sw, tr_getI, tr_getL, tr_getR, tr_putI, tr_putZ, tr_putL, tr_putR, tr_iald, tr_lald, tr_bald, tr_aald, tr_alen, tr_iast, tr_bast, tr_last, tr_aast, tr_newa, tr_anew, tr_new, tr_callV, tr_callS, tr_callI, tr_obj, tr_iret, tr_zret, tr_lret, tr_aret, tr_ret, Nat.reduceAdd, Nat.reduceMul, Nat.reduceDiv, Nat.reduceEqDiff, Nat.reduceLT, Nat.reduceLeDiff, ↓reduceIte, true_and, and_true, true_or, or_true, List.length_nil, List.length_cons, List.nil_append, List.cons_append, Option.toList_some, Option.toList_none, and_self, or_false, false_or, false_and, and_false, imp_self, forall_const, Nat.one_ne_zero, Nat.succ_ne_self, not_true_eq_false, not_false_eq_true, reduceCtorEq, Nat.add_eq_right, Nat.add_eq_left, Nat.add_left_cancel_iff, Nat.zero_add, Int32.reduceLT, Int32.reduceLE, Int32.reduceAdd, Int32.reduceSub, Int32.reduceMul, lg_cmp_ge, lg_cmp_le, lg_cmp_gt, lg_cmp_lt, lg_cmp_eq, i10, i01, eq_self, false_implies, true_implies, implies_true, mK_sI, mK_sL, mK_sR, mK_nw, mN_sI, mN_sL, mN_sR, mN_nw, mI_sI, mI_sL, mI_sR, mI_nw, mL_sI, mL_sL, mL_sR, mL_nw, mR_sI, mR_sL, mR_sR, mR_nw, mS_sI, mS_sL, mS_sR, mS_nw, mU_sI, mU_sL, mU_sR, mU_nw, go_1, csj, inl, lgn, lgc, nI_ne4 (show j < 2 ^ 31 by omega), nI_clamp (show j < 2 ^ 31 by omega), vp_in_nI (show j < 40 by omega) (by decide), RM.k H, (rm_parent H).1, (rm_parent H).2.1, (rm_parent H).2.2, a_X12_kind_0, a_X12_kind_1, a_X12_kind_3, a_X12_kind_6, a_X12_kind_7, a_X12_kind_8, a_X12_kind_11, a_X12_kind_14, a_X12_kind_15, a_X12_kind_16, a_X12_kind_17, a_X12_kind_18, a_X12_kind_19, a_X12_kind_20, a_X12_kind_21, a_X12_kind_23, a_X12_kind_26, a_X12_kind_29, a_X12_kind_30, a_X12_kind_33, a_X12_kind_34, a_X12_kind_35, a_X12_kind_36, a_X12_kind_39, a_X12_kind_40, a_X12_kind_42, a_X12_kind_45, a_X12_kind_47, a_X12_kind_48, a_X12_kind_49, a_X12_kind_52, a_X12_kind_54, a_X12_kind_57, a_X12_kind_59, a_X12_kind_60, a_X12_kind_61, a_X12_kind_64, a_X12_kind_65, a_X12_kind_68, a_X12_kind_69, a_X12_kind_70, a_X12_kind_71, a_X12_kind_74, a_X12_kind_75, a_X12_kind_78, a_X12_kind_79, a_X12_kind_80, a_X12_kind_81, a_X12_kind_82, a_X12_kind_85, a_X12_kind_86, a_X12_kind_87, a_X12_kind_90, a_X12_kind_91, a_X12_kind_94, a_X12_kind_95, a_X12_kind_96]
      refine wp_sub ?_ (ih (mI M 1095007 (h + 1) (j)) (n + 1) ?_)
      · rw [nI_succ]
        intro q hq
        simp only [List.mem_cons, List.not_mem_nil, or_false] at hq ⊢
        rcases hq with rfl | rfl | rfl | rfl <;> simp
      · rcases (hP.2 j h1).2 with ⟨g1, g2⟩ | ⟨i, g0, g1, g2⟩
        · exact Or.inl ⟨g1, by omega⟩
        · exact Or.inr ⟨i, by omega, by omega, g1, by omega⟩
/-! one more kind: what stays -/
theorem LI_ka {M : Mem} {x : Nat} {c : Core} {nk nk' : Nat} {ka ka' : Nat → Nat} {ns a l : Nat} (hn : nk ≤ nk') (hk : ∀ k, k < nk → ka' k = ka k) (I : LI M x c nk ka ns a l) : LI M x c nk' ka' ns a l := by
  unfold LI at I ⊢
  obtain ⟨i1, i2, i3, ⟨k, k1, k2, k3⟩, i5⟩ := I
  exact ⟨i1, i2, i3, ⟨k, by omega, by rw [hk k k1]; exact k2, k3⟩, i5⟩
theorem RLs_ka {M : Mem} {x : Nat} {c : Core} {nk nk' : Nat} {ka ka' : Nat → Nat} {ns nl : Nat} {la : Nat → Nat} (hn : nk ≤ nk') (hk : ∀ k, k < nk → ka' k = ka k) (L : RLs M x c nk ka ns nl la) : RLs M x c nk' ka' ns nl la := ⟨L.1, L.2.1, L.2.2.1, fun l hl => LI_ka hn hk (rl_i L l hl)⟩
theorem RA_ka {M : Mem} {x : Nat} {c : Core} {nk nk' : Nat} {ka ka' : Nat → Nat} (hn : nk ≤ nk') (hk : ∀ k, k < nk → ka' k = ka k) (A : RA M x c nk ka) : RA M x c nk' ka' := by
  obtain ⟨na, nx, a1, a2, a3, a4, a5, a6⟩ := ra_all A
  refine ⟨na, nx, a1, a2, a3, a4, a5, fun j hj => ?_⟩
  obtain ⟨k, k1, k2, k3, k4⟩ := a6 j hj
  exact ⟨k, by omega, k2, by rw [hk k k1]; exact k3, k4⟩
theorem RC_dp {M : Mem} {x : Nat} {c : Core} {dp dp' : Nat → Nat} {nl : Nat} {la : Nat → Nat} {ch : Nat → List Nat} (hd : ∀ l, l < nl → dqc c dp' l = dqc c dp l) (C : RC M x c dp nl la ch) : RC M x c dp' nl la ch := by
  intro p hp
  have I := C p hp
  refine ⟨ch_lk I, ?_, ch_mem I⟩
  refine List.Pairwise.imp_of_mem (fun {a b} ha hb h => ?_) (ch_pw I)
  have h1 := hd a ((ch_mem I a).mp ha).1
  have h2 := hd b ((ch_mem I b).mp hb).1
  unfold ah at h ⊢
  simp only [h1, h2]
  exact h
def up1 (f : Nat → Nat) (n v : Nat) : Nat → Nat := fun i => if i = n then v else f i
theorem up1_s (f : Nat → Nat) (n v : Nat) : up1 f n v n = v := if_pos rfl
theorem up1_o {f : Nat → Nat} {n v i : Nat} (h : i < n) : up1 f n v i = f i := if_neg (by omega)
theorem RK_add {M M' : Mem} {x : Nat} {c : Core} {nk : Nat} {ka dp : Nat → Nat} {a e : Nat} {up : Int32} {ln : Int64} (K : RK M x c nk ka dp) (hnk : nk < 40) (hE : ∀ q, mK M q ≠ 0 → mK M' q = mK M q) (hka : ∀ i, i < nk → ka i ≠ a) (ha : mK M' a = 4) (h300 : ∀ q, mI M' 300 q 0 = if q = a then nI nk else mI M 300 q 0) (h301 : ∀ q, mI M' 301 q 0 = if q = a then nI e else mI M 301 q 0) (h302 : ∀ q, mL M' 302 q 0 = if q = a then ln else mL M 302 q 0) (h303 : ∀ q, mL M' 303 q 0 = if q = a then 0 else mL M 303 q 0)
    (hr : ∀ i, mR M' 5023007 (x + 2) i = if i = nk then some a else mR M 5023007 (x + 2) i) (hs : (mI M' 401 (x + 1) 0) = nI (nk + 1)) (he : e ≤ 10) (hup : (up = -4 ∧ e = 0 ∧ ln = (1 : Int64) <<< ((nI nk).toInt64 &&& 63)) ∨ ∃ j, j < nk ∧ up = nI j ∧ e = dp j + 1 ∧ ln = ((1 : Int64) <<< ((nI nk).toInt64 &&& 63)) ||| mL M 302 (ka j) 0) :
    RK M' x (uI (uL (uI c 1 nk up) 2 nk 0) 0 0 (nI (nk + 1))) (nk + 1) (up1 ka nk a) (up1 dp nk e) := by
  refine ⟨by omega, hs, by rw [kI_uI, if_pos ⟨rfl, rfl⟩], fun i hi => ?_⟩
  simp only [KI, kI_uI, kI_uL, kL_uI, kL_uL, h300, h301, h302, h303, hr, Nat.reduceEqDiff, false_and, if_false, true_and]
  by_cases e1 : i = nk
  · subst e1
    simp only [up1_s, if_true]
    refine ⟨trivial, ha, trivial, trivial, he, trivial, ?_⟩
    rcases hup with h | ⟨j, j1, j2, j3, j4⟩
    · exact Or.inl h
    · refine Or.inr ⟨j, j1, j2, by rw [up1_o j1]; exact j3, ?_⟩
      rw [up1_o j1, if_neg (hka j j1)]; exact j4
  · have hi' : i < nk := by omega
    have I := rk_i K i hi'
    rw [up1_o hi', up1_o hi']
    simp only [hka i hi', e1, if_false]
    refine ⟨ki_at I, by rw [hE (ka i) (by rw [ki_k I]; decide)]; exact ki_k I, ki_num I, ki_dep I, ki_dp I, ki_met I, ?_⟩
    rcases ki_par I with h | ⟨j, j1, j2, j3, j4⟩
    · exact Or.inl h
    · refine Or.inr ⟨j, j1, j2, by rw [up1_o (by omega)]; exact j3, ?_⟩
      rw [up1_o (by omega), if_neg (hka j (by omega))]; exact j4
set_option maxRecDepth 20000 in
theorem y_kindRef {D : DD} {d : Nat} {M : Mem} {h nk : Nat} {dp : Nat → Nat} {Q : Qt} {u : Int32} (H : RM M h) (hP : Par M h nk dp) (hk : (mI M 1200 h 0) = nI nk) (hu : u = -4 ∨ ∃ j, j < nk ∧ u = nI j)
    (h1 : (∃ j, j < nk ∧ u = nI j ∧ 10 ≤ dp j) → Q M (some (.int (-2)))) (h2 : (u = -4 ∨ ∃ j, j < nk ∧ u = nI j ∧ dp j < 10) → nk = 40 → Q M (some (.int (-3)))) (h3 : (u = -4 ∨ ∃ j, j < nk ∧ u = nI j ∧ dp j < 10) → nk < 40 → Q (sI (sL (sI M 1095007 (h + 1) nk u) 2095015 (h + 2) nk 0) 1200 h 0 (nI (nk + 1))) (some (.int (nI nk)))) : Call D (d + 20) mi_X12_kind [.ref h, .int u] M Q := by
  have nk40 := hP.1
  have hC : Snd D (d + 19) (cs [(97, sp_is nk 1200)]) := cs_c mn_X12_isKind (c_isKind (n := nk) (by omega)) cs_n
  have fin : ∀ N : Nat, N ≤ 11 → ((u = -4 ∧ N = 0) ∨ ∃ j, j < nk ∧ u = nI j ∧ N = dp j + 1) → wp D (d + 20) mi_X12_kind M M 39 [(0, .ref h), (1, .int u), (2, .int (nI N))] [] Q := by
    intro N hN hu2
    refine run0 (tbk_X12_kind hC) 60 ?_
    by_cases c1 : N ≤ 10
    · have hu3 : u = -4 ∨ ∃ j, j < nk ∧ u = nI j ∧ dp j < 10 := by
        rcases hu2 with ⟨g, _⟩ | ⟨j, g1, g2, g3⟩
        · exact Or.inl g
        · exact Or.inr ⟨j, g1, g2, by omega⟩
      by_cases c2 : nk = 40
      · simp -implicitDefEqProofs +decide only [go_0, pI_i, pL_i, pA_i, pA_s, pV_i, oI_i, oL_i, oV_i, lk, rm1, rm2, isR_rf, isR_ref, isR_null, rfo_rf, rfo_ref, rfo_null, rf_some, rf_none, rf_eq_null, rf_eq_ref, ↓nl_n, ↓nl_r, nl_rf, cat_i, cat_l, cat_r, cat_n, cat_rf, lv_args, pN_0, pN_s, tr_ic, tr_lc, tr_null, tr_iload, tr_lload, tr_aload, tr_istore, tr_lstore, tr_astore, tr_iinc, tr_iadd, tr_isub, tr_imul, tr_iand, tr_irem, tr_ladd, tr_lsub, tr_land, tr_lor, tr_lshl, tr_ldiv, tr_lrem, tr_i2l, tr_l2i, tr_i2b, tr_lcmp, tr_dup, tr_dup2, tr_pop, tr_goto, tr_ifeq, tr_ifne, tr_iflt, tr_ifge, tr_ifgt, tr_ifle, tr_iceq, tr_icne, tr_iclt, tr_icge, tr_icgt, tr_icle, tr_ifnull, tr_ifnonnull, tr_sw, tr_getI, tr_getL, tr_getR, tr_putI, tr_putZ, tr_putL, tr_putR, tr_iald, tr_lald, tr_bald, tr_aald, tr_alen, tr_iast, tr_bast, tr_last, tr_aast, tr_newa, tr_anew, tr_new, tr_callV, tr_callS, tr_callI, tr_obj, tr_iret, tr_zret, tr_lret, tr_aret, tr_ret, Nat.reduceAdd, Nat.reduceMul, Nat.reduceDiv, Nat.reduceEqDiff, Nat.reduceLT, Nat.reduceLeDiff, ↓reduceIte, true_and, and_true, true_or, or_true, List.length_nil, List.length_cons, List.nil_append, List.cons_append, Option.toList_some, Option.toList_none, and_self, or_false, false_or, false_and, and_false, imp_self, forall_const, Nat.one_ne_zero, Nat.succ_ne_self, not_true_eq_false, not_false_eq_true, reduceCtorEq, Nat.add_eq_right, Nat.add_eq_left, Nat.add_left_cancel_iff, Nat.zero_add, Int32.reduceLT, Int32.reduceLE, Int32.reduceAdd, Int32.reduceSub, Int32.reduceMul, lg_cmp_ge, lg_cmp_le, lg_cmp_gt, lg_cmp_lt, lg_cmp_eq, i10, i01, eq_self, false_implies, true_implies, implies_true, mK_sI, mK_sL, mK_sR, mK_nw, mN_sI, mN_sL, mN_sR, mN_nw, mI_sI, mI_sL, mI_sR, mI_nw, mL_sI, mL_sL, mL_sR, mL_nw, mR_sI, mR_sL, mR_sR, mR_nw, mS_sI, mS_sL, mS_sR, mS_nw, mU_sI, mU_sL, mU_sR, mU_nw, nI_le2 (n := 10) (L := 10) rfl (show N < 2 ^ 31 by omega) (by decide), c1, hk, nI_eqL (n := 40) (L := 40) rfl (show nk < 2 ^ 31 by omega) (by decide), c2, RM.k H, a_X12_kind_0, a_X12_kind_1, a_X12_kind_3, a_X12_kind_6, a_X12_kind_7, a_X12_kind_8, a_X12_kind_11, a_X12_kind_14, a_X12_kind_15, a_X12_kind_16, a_X12_kind_17, a_X12_kind_18, a_X12_kind_19, a_X12_kind_20, a_X12_kind_21, a_X12_kind_23, a_X12_kind_26, a_X12_kind_29, a_X12_kind_30, a_X12_kind_33, a_X12_kind_34, a_X12_kind_35, a_X12_kind_36, a_X12_kind_39, a_X12_kind_40, a_X12_kind_42, a_X12_kind_45, a_X12_kind_47, a_X12_kind_48, a_X12_kind_49, a_X12_kind_52, a_X12_kind_54, a_X12_kind_57, a_X12_kind_59, a_X12_kind_60, a_X12_kind_61, a_X12_kind_64, a_X12_kind_65, a_X12_kind_68, a_X12_kind_69, a_X12_kind_70, a_X12_kind_71, a_X12_kind_74, a_X12_kind_75, a_X12_kind_78, a_X12_kind_79, a_X12_kind_80, a_X12_kind_81, a_X12_kind_82, a_X12_kind_85, a_X12_kind_86, a_X12_kind_87, a_X12_kind_90, a_X12_kind_91, a_X12_kind_94, a_X12_kind_95, a_X12_kind_96]
        exact h2 hu3 c2
      · simp -implicitDefEqProofs +decide only [go_0, pI_i, pL_i, pA_i, pA_s, pV_i, oI_i, oL_i, oV_i, lk, rm1, rm2, isR_rf, isR_ref, isR_null, rfo_rf, rfo_ref, rfo_null, rf_some, rf_none, rf_eq_null, rf_eq_ref, ↓nl_n, ↓nl_r, nl_rf, cat_i, cat_l, cat_r, cat_n, cat_rf, lv_args, pN_0, pN_s, tr_ic, tr_lc, tr_null, tr_iload, tr_lload, tr_aload, tr_istore, tr_lstore, tr_astore, tr_iinc, tr_iadd, tr_isub, tr_imul, tr_iand, tr_irem, tr_ladd, tr_lsub, tr_land, tr_lor, tr_lshl, tr_ldiv, tr_lrem, tr_i2l, tr_l2i, tr_i2b, tr_lcmp, tr_dup, tr_dup2, tr_pop, tr_goto, tr_ifeq, tr_ifne, tr_iflt, tr_ifge, tr_ifgt, tr_ifle, tr_iceq, tr_icne, tr_iclt, tr_icge, tr_icgt, tr_icle, tr_ifnull, tr_ifnonnull, tr_sw, tr_getI, tr_getL, tr_getR, tr_putI, tr_putZ, tr_putL, tr_putR, tr_iald, tr_lald, tr_bald, tr_aald, tr_alen, tr_iast, tr_bast, tr_last, tr_aast, tr_newa, tr_anew, tr_new, tr_callV, tr_callS, tr_callI, tr_obj, tr_iret, tr_zret, tr_lret, tr_aret, tr_ret, Nat.reduceAdd, Nat.reduceMul, Nat.reduceDiv, Nat.reduceEqDiff, Nat.reduceLT, Nat.reduceLeDiff, ↓reduceIte, true_and, and_true, true_or, or_true, List.length_nil, List.length_cons, List.nil_append, List.cons_append, Option.toList_some, Option.toList_none, and_self, or_false, false_or, false_and, and_false, imp_self, forall_const, Nat.one_ne_zero, Nat.succ_ne_self, not_true_eq_false, not_false_eq_true, reduceCtorEq, Nat.add_eq_right, Nat.add_eq_left, Nat.add_left_cancel_iff, Nat.zero_add, Int32.reduceLT, Int32.reduceLE, Int32.reduceAdd, Int32.reduceSub, Int32.reduceMul, lg_cmp_ge, lg_cmp_le, lg_cmp_gt, lg_cmp_lt, lg_cmp_eq, i10, i01, eq_self, false_implies, true_implies, implies_true, mK_sI, mK_sL, mK_sR, mK_nw, mN_sI, mN_sL, mN_sR, mN_nw, mI_sI, mI_sL, mI_sR, mI_nw, mL_sI, mL_sL, mL_sR, mL_nw, mR_sI, mR_sL, mR_sR, mR_nw, mS_sI, mS_sL, mS_sR, mS_nw, mU_sI, mU_sL, mU_sR, mU_nw, nI_le2 (n := 10) (L := 10) rfl (show N < 2 ^ 31 by omega) (by decide), c1, hk, nI_eqL (n := 40) (L := 40) rfl (show nk < 2 ^ 31 by omega) (by decide), c2, nI_clamp (show nk < 2 ^ 31 by omega), vp_in_nI (show nk < 40 by omega) (by decide), ← nI_succ, nI_pred, RM.k H, (rm_parent H).1, (rm_parent H).2.1, (rm_parent H).2.2, (rm_meters H).1, (rm_meters H).2.1, (rm_meters H).2.2, a_X12_kind_0, a_X12_kind_1, a_X12_kind_3, a_X12_kind_6, a_X12_kind_7, a_X12_kind_8, a_X12_kind_11, a_X12_kind_14, a_X12_kind_15, a_X12_kind_16, a_X12_kind_17, a_X12_kind_18, a_X12_kind_19, a_X12_kind_20, a_X12_kind_21, a_X12_kind_23, a_X12_kind_26, a_X12_kind_29, a_X12_kind_30, a_X12_kind_33, a_X12_kind_34, a_X12_kind_35, a_X12_kind_36, a_X12_kind_39, a_X12_kind_40, a_X12_kind_42, a_X12_kind_45, a_X12_kind_47, a_X12_kind_48, a_X12_kind_49, a_X12_kind_52, a_X12_kind_54, a_X12_kind_57, a_X12_kind_59, a_X12_kind_60, a_X12_kind_61, a_X12_kind_64, a_X12_kind_65, a_X12_kind_68, a_X12_kind_69, a_X12_kind_70, a_X12_kind_71, a_X12_kind_74, a_X12_kind_75, a_X12_kind_78, a_X12_kind_79, a_X12_kind_80, a_X12_kind_81, a_X12_kind_82, a_X12_kind_85, a_X12_kind_86, a_X12_kind_87, a_X12_kind_90, a_X12_kind_91, a_X12_kind_94, a_X12_kind_95, a_X12_kind_96]
        exact h3 hu3 (by omega)
    · simp -implicitDefEqProofs +decide only [go_0, pI_i, pL_i, pA_i, pA_s, pV_i, oI_i, oL_i, oV_i, lk, rm1, rm2, isR_rf, isR_ref, isR_null, rfo_rf, rfo_ref, rfo_null, rf_some, rf_none, rf_eq_null, rf_eq_ref, ↓nl_n, ↓nl_r, nl_rf, cat_i, cat_l, cat_r, cat_n, cat_rf, lv_args, pN_0, pN_s, tr_ic, tr_lc, tr_null, tr_iload, tr_lload, tr_aload, tr_istore, tr_lstore, tr_astore, tr_iinc, tr_iadd, tr_isub, tr_imul, tr_iand, tr_irem, tr_ladd, tr_lsub, tr_land, tr_lor, tr_lshl, tr_ldiv, tr_lrem, tr_i2l, tr_l2i, tr_i2b, tr_lcmp, tr_dup, tr_dup2, tr_pop, tr_goto, tr_ifeq, tr_ifne, tr_iflt, tr_ifge, tr_ifgt, tr_ifle, tr_iceq, tr_icne, tr_iclt, tr_icge, tr_icgt, tr_icle, tr_ifnull, tr_ifnonnull, tr_sw, tr_getI, tr_getL, tr_getR, tr_putI, tr_putZ, tr_putL, tr_putR, tr_iald, tr_lald, tr_bald, tr_aald, tr_alen, tr_iast, tr_bast, tr_last, tr_aast, tr_newa, tr_anew, tr_new, tr_callV, tr_callS, tr_callI, tr_obj, tr_iret, tr_zret, tr_lret, tr_aret, tr_ret, Nat.reduceAdd, Nat.reduceMul, Nat.reduceDiv, Nat.reduceEqDiff, Nat.reduceLT, Nat.reduceLeDiff, ↓reduceIte, true_and, and_true, true_or, or_true, List.length_nil, List.length_cons, List.nil_append, List.cons_append, Option.toList_some, Option.toList_none, and_self, or_false, false_or, false_and, and_false, imp_self, forall_const, Nat.one_ne_zero, Nat.succ_ne_self, not_true_eq_false, not_false_eq_true, reduceCtorEq, Nat.add_eq_right, Nat.add_eq_left, Nat.add_left_cancel_iff, Nat.zero_add, Int32.reduceLT, Int32.reduceLE, Int32.reduceAdd, Int32.reduceSub, Int32.reduceMul, lg_cmp_ge, lg_cmp_le, lg_cmp_gt, lg_cmp_lt, lg_cmp_eq, i10, i01, eq_self, false_implies, true_implies, implies_true, mK_sI, mK_sL, mK_sR, mK_nw, mN_sI, mN_sL, mN_sR, mN_nw, mI_sI, mI_sL, mI_sR, mI_nw, mL_sI, mL_sL, mL_sR, mL_nw, mR_sI, mR_sL, mR_sR, mR_nw, mS_sI, mS_sL, mS_sR, mS_nw, mU_sI, mU_sL, mU_sR, mU_nw, nI_le2 (n := 10) (L := 10) rfl (show N < 2 ^ 31 by omega) (by decide), c1, hk, RM.k H, a_X12_kind_0, a_X12_kind_1, a_X12_kind_3, a_X12_kind_6, a_X12_kind_7, a_X12_kind_8, a_X12_kind_11, a_X12_kind_14, a_X12_kind_15, a_X12_kind_16, a_X12_kind_17, a_X12_kind_18, a_X12_kind_19, a_X12_kind_20, a_X12_kind_21, a_X12_kind_23, a_X12_kind_26, a_X12_kind_29, a_X12_kind_30, a_X12_kind_33, a_X12_kind_34, a_X12_kind_35, a_X12_kind_36, a_X12_kind_39, a_X12_kind_40, a_X12_kind_42, a_X12_kind_45, a_X12_kind_47, a_X12_kind_48, a_X12_kind_49, a_X12_kind_52, a_X12_kind_54, a_X12_kind_57, a_X12_kind_59, a_X12_kind_60, a_X12_kind_61, a_X12_kind_64, a_X12_kind_65, a_X12_kind_68, a_X12_kind_69, a_X12_kind_70, a_X12_kind_71, a_X12_kind_74, a_X12_kind_75, a_X12_kind_78, a_X12_kind_79, a_X12_kind_80, a_X12_kind_81, a_X12_kind_82, a_X12_kind_85, a_X12_kind_86, a_X12_kind_87, a_X12_kind_90, a_X12_kind_91, a_X12_kind_94, a_X12_kind_95, a_X12_kind_96]
      refine h1 ?_
      rcases hu2 with ⟨_, g⟩ | ⟨j, g1, g2, g3⟩
      · omega
      · exact ⟨j, g1, g2, by omega⟩
  refine call_of (by decide) (Nat.le_of_ble_eq_true rfl) ?_
  rcases hu with rfl | ⟨j, hj, rfl⟩
  · refine runL 20 (tbk_X12_kind (hC)) 60 ?_
    simp -implicitDefEqProofs +decide only [go_0, pI_i, pL_i, pA_i, pA_s, pV_i, oI_i, oL_i, oV_i, lk, rm1, rm2, isR_rf, isR_ref, isR_null, rfo_rf, rfo_ref, rfo_null, rf_some, rf_none, rf_eq_null, rf_eq_ref, ↓nl_n, ↓nl_r, nl_rf, cat_i, cat_l, cat_r, cat_n, cat_rf, lv_args, pN_0, pN_s, tr_ic, tr_lc, tr_null, tr_iload, tr_lload, tr_aload, tr_istore, tr_lstore, tr_astore, tr_iinc, tr_iadd, tr_isub, tr_imul, tr_iand, tr_irem, tr_ladd, tr_lsub, tr_land, tr_lor, tr_lshl, tr_ldiv, tr_lrem, tr_i2l, tr_l2i, tr_i2b, tr_lcmp, tr_dup, tr_dup2, tr_pop, tr_goto, tr_ifeq, tr_ifne, tr_iflt, tr_ifge, tr_ifgt, tr_ifle, tr_iceq, tr_icne, tr_iclt, tr_icge, tr_icgt, tr_icle, tr_ifnull, tr_ifnonnull, tr_sw, tr_getI, tr_getL, tr_getR, tr_putI, tr_putZ, tr_putL, tr_putR, tr_iald, tr_lald, tr_bald, tr_aald, tr_alen, tr_iast, tr_bast, tr_last, tr_aast, tr_newa, tr_anew, tr_new, tr_callV, tr_callS, tr_callI, tr_obj, tr_iret, tr_zret, tr_lret, tr_aret, tr_ret, Nat.reduceAdd, Nat.reduceMul, Nat.reduceDiv, Nat.reduceEqDiff, Nat.reduceLT, Nat.reduceLeDiff, ↓reduceIte, true_and, and_true, true_or, or_true, List.length_nil, List.length_cons, List.nil_append, List.cons_append, Option.toList_some, Option.toList_none, and_self, or_false, false_or, false_and, and_false, imp_self, forall_const, Nat.one_ne_zero, Nat.succ_ne_self, not_true_eq_false, not_false_eq_true, reduceCtorEq, Nat.add_eq_right, Nat.add_eq_left, Nat.add_left_cancel_iff, Nat.zero_add, Int32.reduceLT, Int32.reduceLE, Int32.reduceAdd, Int32.reduceSub, Int32.reduceMul, lg_cmp_ge, lg_cmp_le, lg_cmp_gt, lg_cmp_lt, lg_cmp_eq, i10, i01, eq_self, false_implies, true_implies, implies_true, mK_sI, mK_sL, mK_sR, mK_nw, mN_sI, mN_sL, mN_sR, mN_nw, mI_sI, mI_sL, mI_sR, mI_nw, mL_sI, mL_sL, mL_sR, mL_nw, mR_sI, mR_sL, mR_sR, mR_nw, mS_sI, mS_sL, mS_sR, mS_nw, mU_sI, mU_sL, mU_sR, mU_nw, go_1, csj, inl, lgn, lgc, cs, sp_is, RM.k H, a_X12_kind_0, a_X12_kind_1, a_X12_kind_3, a_X12_kind_6, a_X12_kind_7, a_X12_kind_8, a_X12_kind_11, a_X12_kind_14, a_X12_kind_15, a_X12_kind_16, a_X12_kind_17, a_X12_kind_18, a_X12_kind_19, a_X12_kind_20, a_X12_kind_21, a_X12_kind_23, a_X12_kind_26, a_X12_kind_29, a_X12_kind_30, a_X12_kind_33, a_X12_kind_34, a_X12_kind_35, a_X12_kind_36, a_X12_kind_39, a_X12_kind_40, a_X12_kind_42, a_X12_kind_45, a_X12_kind_47, a_X12_kind_48, a_X12_kind_49, a_X12_kind_52, a_X12_kind_54, a_X12_kind_57, a_X12_kind_59, a_X12_kind_60, a_X12_kind_61, a_X12_kind_64, a_X12_kind_65, a_X12_kind_68, a_X12_kind_69, a_X12_kind_70, a_X12_kind_71, a_X12_kind_74, a_X12_kind_75, a_X12_kind_78, a_X12_kind_79, a_X12_kind_80, a_X12_kind_81, a_X12_kind_82, a_X12_kind_85, a_X12_kind_86, a_X12_kind_87, a_X12_kind_90, a_X12_kind_91, a_X12_kind_94, a_X12_kind_95, a_X12_kind_96]
    refine wp_sub ?_ (l_kind (D := D) (d := d + 19) (M0 := M) (x1 := -4) hC H hP (N := 0) (fin 0 (by omega) (Or.inl ⟨rfl, rfl⟩)) 12 (-4) 0 (Or.inl ⟨rfl, rfl⟩))
    intro q hq
    simp only [List.mem_cons, List.not_mem_nil, or_false] at hq ⊢
    rcases hq with rfl | rfl | rfl | rfl <;> simp [nI_0]
  · have hd := (hP.2 j hj).1
    refine runL 20 (tbk_X12_kind (hC)) 60 ?_
    simp -implicitDefEqProofs +decide only [go_0, pI_i, pL_i, pA_i, pA_s, pV_i, oI_i, oL_i, oV_i, lk, rm1, rm2, isR_rf, isR_ref, isR_null, rfo_rf, rfo_ref, rfo_null, rf_some, rf_none, rf_eq_null, rf_eq_ref, ↓nl_n, ↓nl_r, nl_rf, cat_i, cat_l, cat_r, cat_n, cat_rf, lv_args, pN_0, pN_s, tr_ic, tr_lc, tr_null, tr_iload, tr_lload, tr_aload, tr_istore, tr_lstore, tr_astore, tr_iinc, tr_iadd, tr_isub, tr_imul, tr_iand, tr_irem, tr_ladd, tr_lsub, tr_land, tr_lor, tr_lshl, tr_ldiv, tr_lrem, tr_i2l, tr_l2i, tr_i2b, tr_lcmp, tr_dup, tr_dup2, tr_pop, tr_goto, tr_ifeq, tr_ifne, tr_iflt, tr_ifge, tr_ifgt, tr_ifle, tr_iceq, tr_icne, tr_iclt, tr_icge, tr_icgt, tr_icle, tr_ifnull, tr_ifnonnull, tr_sw, tr_getI, tr_getL, tr_getR, tr_putI, tr_putZ, tr_putL, tr_putR, tr_iald, tr_lald, tr_bald, tr_aald, tr_alen, tr_iast, tr_bast, tr_last, tr_aast, tr_newa, tr_anew, tr_new, tr_callV, tr_callS, tr_callI, tr_obj, tr_iret, tr_zret, tr_lret, tr_aret, tr_ret, Nat.reduceAdd, Nat.reduceMul, Nat.reduceDiv, Nat.reduceEqDiff, Nat.reduceLT, Nat.reduceLeDiff, ↓reduceIte, true_and, and_true, true_or, or_true, List.length_nil, List.length_cons, List.nil_append, List.cons_append, Option.toList_some, Option.toList_none, and_self, or_false, false_or, false_and, and_false, imp_self, forall_const, Nat.one_ne_zero, Nat.succ_ne_self, not_true_eq_false, not_false_eq_true, reduceCtorEq, Nat.add_eq_right, Nat.add_eq_left, Nat.add_left_cancel_iff, Nat.zero_add, Int32.reduceLT, Int32.reduceLE, Int32.reduceAdd, Int32.reduceSub, Int32.reduceMul, lg_cmp_ge, lg_cmp_le, lg_cmp_gt, lg_cmp_lt, lg_cmp_eq, i10, i01, eq_self, false_implies, true_implies, implies_true, mK_sI, mK_sL, mK_sR, mK_nw, mN_sI, mN_sL, mN_sR, mN_nw, mI_sI, mI_sL, mI_sR, mI_nw, mL_sI, mL_sL, mL_sR, mL_nw, mR_sI, mR_sL, mR_sR, mR_nw, mS_sI, mS_sL, mS_sR, mS_nw, mU_sI, mU_sL, mU_sR, mU_nw, go_1, csj, inl, lgn, lgc, cs, sp_is, RM.k H, hk, inN_nI hj (show nk < 2 ^ 31 by omega), nI_ne4 (show j < 2 ^ 31 by omega), a_X12_kind_0, a_X12_kind_1, a_X12_kind_3, a_X12_kind_6, a_X12_kind_7, a_X12_kind_8, a_X12_kind_11, a_X12_kind_14, a_X12_kind_15, a_X12_kind_16, a_X12_kind_17, a_X12_kind_18, a_X12_kind_19, a_X12_kind_20, a_X12_kind_21, a_X12_kind_23, a_X12_kind_26, a_X12_kind_29, a_X12_kind_30, a_X12_kind_33, a_X12_kind_34, a_X12_kind_35, a_X12_kind_36, a_X12_kind_39, a_X12_kind_40, a_X12_kind_42, a_X12_kind_45, a_X12_kind_47, a_X12_kind_48, a_X12_kind_49, a_X12_kind_52, a_X12_kind_54, a_X12_kind_57, a_X12_kind_59, a_X12_kind_60, a_X12_kind_61, a_X12_kind_64, a_X12_kind_65, a_X12_kind_68, a_X12_kind_69, a_X12_kind_70, a_X12_kind_71, a_X12_kind_74, a_X12_kind_75, a_X12_kind_78, a_X12_kind_79, a_X12_kind_80, a_X12_kind_81, a_X12_kind_82, a_X12_kind_85, a_X12_kind_86, a_X12_kind_87, a_X12_kind_90, a_X12_kind_91, a_X12_kind_94, a_X12_kind_95, a_X12_kind_96]
    refine wp_sub ?_ (l_kind (D := D) (d := d + 19) (M0 := M) (x1 := nI j) hC H hP (N := dp j + 1) (fin (dp j + 1) (by omega) (Or.inr ⟨j, hj, rfl, rfl⟩)) 12 (nI j) 0 (Or.inr ⟨j, hj, by omega, rfl, by omega⟩))
    intro q hq
    simp only [List.mem_cons, List.not_mem_nil, or_false] at hq ⊢
    rcases hq with rfl | rfl | rfl | rfl <;> simp [nI_0]
/-! the class makes a kind -/
theorem RZ_kind {M M2 : Mem} {S0 U0 nk nl : Nat} (h1 : mS M ≤ S0 + nk + 4 * nl) (h2 : mU M ≤ U0 + 10 * nk + 60 * nl) (h3 : mS M2 = mS M + 1) (h4 : mU M2 ≤ mU M + 10) (h5 : Clean M2) : RZ M2 S0 U0 (nk + 1) nl := ⟨by omega, by omega, h5⟩
set_option maxRecDepth 20000 in
theorem y_kindAdd {D : DD} {d : Nat} {M : Mem} {x h S0 U0 : Nat} (hR : Rel M x h S0 U0) {nk0 : Nat} {ka0 dp0 : Nat → Nat} (K0 : RK M x (core M h) nk0 ka0 dp0) (hnk : nk0 < 40) {up : Int32} {e : Nat} {ln : Int64} (he : e ≤ 10) (hup : (up = -4 ∧ e = 0 ∧ ln = (1 : Int64) <<< ((nI nk0).toInt64 &&& 63)) ∨ ∃ j, j < nk0 ∧ up = nI j ∧ e = dp0 j + 1 ∧ dp0 j < 10 ∧ ln = ((1 : Int64) <<< ((nI nk0).toInt64 &&& 63)) ||| (mL M 302 (ka0 j) 0)) {u : Nat} (hu : u ≤ 10) {M1 : Mem} (hM1 : M1 = sI (sR (sL (sI (sI (nw M 4 0 u) 300 (mS M) 0 (nI nk0)) 301 (mS M) 0 (nI e)) 302 (mS M) 0 ln) 5023007 (x + 2) nk0 (some (mS M))) 401 (x + 1) 0 (nI (nk0 + 1))) :
    PrI D (d + 20) mi_X12_kind [.ref h, .int up] x h S0 U0 M1 (some (.int (nI nk0))) := by
  obtain ⟨H, nk, ka, dp, ns, nl, la, ch, cu, nf, lg, wf, R, P, V, w1, w2, w3⟩ := hR
  have zs := rz_s (r0_z R)
  have zu := rz_u (r0_z R)
  have zc := rz_cl (r0_z R)
  have S := r0_sh R
  have K := r0_k R
  have L := r0_l R
  have C := r0_s R
  have T := r0_t R
  have nk40 := rk_le K
  have nl200 := rl_le L
  have enk : nk0 = nk := (nI_eq (by omega) (by omega)).mp (by rw [← rk_sz K0, ← rk_sz K])
  -- the older words
  have eka : ∀ i, i < nk → ka0 i = ka i := fun i hi => by
    have a1 := ki_at (rk_i K0 i (by omega))
    have a2 := ki_at (rk_i K i hi)
    rw [a1] at a2; exact Option.some.inj a2
  have edp : ∀ i, i < nk → dp0 i = dp i := fun i hi => by
    have a1 := ki_dep (rk_i K0 i (by omega))
    have a2 := ki_dep (rk_i K i hi)
    rw [eka i hi, a2] at a1
    have b1 := ki_dp (rk_i K0 i (by omega))
    have b2 := ki_dp (rk_i K i hi)
    exact ((nI_eq (by omega) (by omega)).mp a1).symm
  have kalt : ∀ i, i < nk → ka i ≠ mS M := fun i hi => by
    have := cl_lt zc (a := ka i) (by rw [ki_k (rk_i K i hi)]; decide)
    omega
  have xlt : x + 48 < mS M := cl_lt zc (by have := (sh_tray S (show 7 < 8 by omega)).2.2.2.1; rw [show x + 34 + 2 * 7 = x + 48 by omega] at this; rw [this]; decide)
  have hlt : h + 39 < mS M := cl_lt zc (by rw [(rm_actValue H).2.1]; decide)
  have H1 : RM M1 h := by
    rw [hM1]
    refine RM_fz (M := nw M 4 0 u) (ki := [300, 301, 401]) (kl := [302]) (kr := [5023007]) (Fz.of ((((((Fx.rf.sI (by decide)).sI (by decide)).sL (by decide)).sR (by decide))).sI (by decide))) (by decide) (RM_fz (ki := []) (kl := []) (kr := []) (Fz.nw zc) (by decide) H)
  have hco : core M1 h = core M h := by rw [hM1, cx_401, core_sR, cx_302, cx_301, cx_300, core_nw]
  have r_kinds : mI M1 1200 h 0 = nI nk := by
    rw [hM1]; simp only [mK_sI, mK_sL, mK_sR, mK_nw, mN_sI, mN_sL, mN_sR, mN_nw, mI_sI, mI_sL, mI_sR, mI_nw, mL_sI, mL_sL, mL_sR, mL_nw, mR_sI, mR_sL, mR_sR, mR_nw, mS_sI, mS_sL, mS_sR, mS_nw, mU_sI, mU_sL, mU_sR, mU_nw, Nat.reduceEqDiff, false_and, if_false]; exact rk_c K
  have hP1 : Par M1 h nk dp := by
    refine ⟨nk40, fun j hj => ?_⟩
    have hp := (Par_of K).2 j hj
    have e1 : (mI M1 1095007 (h + 1) (j)) = (mI M 1095007 (h + 1) (j)) := by rw [hM1]; simp only [mK_sI, mK_sL, mK_sR, mK_nw, mN_sI, mN_sL, mN_sR, mN_nw, mI_sI, mI_sL, mI_sR, mI_nw, mL_sI, mL_sL, mL_sR, mL_nw, mR_sI, mR_sL, mR_sR, mR_nw, mS_sI, mS_sL, mS_sR, mS_nw, mU_sI, mU_sL, mU_sR, mU_nw, Nat.reduceEqDiff, false_and, if_false]
    rw [e1]; exact hp
  refine ⟨_, rfl, ?_⟩
  have hup' : up = -4 ∨ ∃ j, j < nk ∧ up = nI j ∧ dp j < 10 := by
    rcases hup with ⟨g, _⟩ | ⟨j, g1, g2, _, g3, _⟩
    · exact Or.inl g
    · exact Or.inr ⟨j, by omega, g2, by rw [← edp j (by omega)]; exact g3⟩
  refine y_kindRef H1 hP1 r_kinds ?_ ?_ (fun _ q => ?_) (fun _ _ => ?_)
  · rcases hup' with g | ⟨j, g1, g2, _⟩
    · exact Or.inl g
    · exact Or.inr ⟨j, g1, g2⟩
  · rintro ⟨j, g1, g2, g3⟩
    rcases hup' with g | ⟨j', g4, g5, g6⟩
    · rw [g] at g2; exact absurd g2.symm (nI_ne4 (by omega))
    · rw [g5] at g2
      have := (nI_eq (by omega) (by omega)).mp g2
      subst this
      omega
  · omega
  · refine ⟨by rw [enk], H1, nk + 1, up1 ka nk (mS M), up1 dp nk e, ns, nl, la, ch, cu, nf, lg, wf, ?_⟩
    have K' := RK_add (M := M) (M' := M1) (a := mS M) (e := e) (up := up) (ln := ln) K (by omega) (fun q hq => by
      have := cl_lt zc hq
      rw [hM1]; simp only [mK_sI, mK_sL, mK_sR, mK_nw, mN_sI, mN_sL, mN_sR, mN_nw, mI_sI, mI_sL, mI_sR, mI_nw, mL_sI, mL_sL, mL_sR, mL_nw, mR_sI, mR_sL, mR_sR, mR_nw, mS_sI, mS_sL, mS_sR, mS_nw, mU_sI, mU_sL, mU_sR, mU_nw]; rw [if_neg (by omega)]) kalt (by rw [hM1]; simp only [mK_sI, mK_sL, mK_sR, mK_nw, mN_sI, mN_sL, mN_sR, mN_nw, mI_sI, mI_sL, mI_sR, mI_nw, mL_sI, mL_sL, mL_sR, mL_nw, mR_sI, mR_sL, mR_sR, mR_nw, mS_sI, mS_sL, mS_sR, mS_nw, mU_sI, mU_sL, mU_sR, mU_nw, if_true]) (fun q => by
      rw [hM1, enk]; simp only [mK_sI, mK_sL, mK_sR, mK_nw, mN_sI, mN_sL, mN_sR, mN_nw, mI_sI, mI_sL, mI_sR, mI_nw, mL_sI, mL_sL, mL_sR, mL_nw, mR_sI, mR_sL, mR_sR, mR_nw, mS_sI, mS_sL, mS_sR, mS_nw, mU_sI, mU_sL, mU_sR, mU_nw, Nat.reduceEqDiff, false_and, if_false, true_and, and_true]) (fun q => by
      rw [hM1]; simp only [mK_sI, mK_sL, mK_sR, mK_nw, mN_sI, mN_sL, mN_sR, mN_nw, mI_sI, mI_sL, mI_sR, mI_nw, mL_sI, mL_sL, mL_sR, mL_nw, mR_sI, mR_sL, mR_sR, mR_nw, mS_sI, mS_sL, mS_sR, mS_nw, mU_sI, mU_sL, mU_sR, mU_nw, Nat.reduceEqDiff, false_and, if_false, true_and, and_true]) (fun q => by
      rw [hM1]; simp only [mK_sI, mK_sL, mK_sR, mK_nw, mN_sI, mN_sL, mN_sR, mN_nw, mI_sI, mI_sL, mI_sR, mI_nw, mL_sI, mL_sL, mL_sR, mL_nw, mR_sI, mR_sL, mR_sR, mR_nw, mS_sI, mS_sL, mS_sR, mS_nw, mU_sI, mU_sL, mU_sR, mU_nw, Nat.reduceEqDiff, false_and, if_false, true_and, and_true]) (fun q => by
      rw [hM1]; simp only [mK_sI, mK_sL, mK_sR, mK_nw, mN_sI, mN_sL, mN_sR, mN_nw, mI_sI, mI_sL, mI_sR, mI_nw, mL_sI, mL_sL, mL_sR, mL_nw, mR_sI, mR_sL, mR_sR, mR_nw, mS_sI, mS_sL, mS_sR, mS_nw, mU_sI, mU_sL, mU_sR, mU_nw, Nat.reduceEqDiff, false_and, if_false]
      by_cases e3 : q = mS M
      · rw [if_pos e3, e3]; exact (zc (mS M) (Nat.le_refl _)).2 303 0 |>.2.1
      · rw [if_neg e3]) (fun i => by
      rw [hM1, enk]; simp only [mK_sI, mK_sL, mK_sR, mK_nw, mN_sI, mN_sL, mN_sR, mN_nw, mI_sI, mI_sL, mI_sR, mI_nw, mL_sI, mL_sL, mL_sR, mL_nw, mR_sI, mR_sL, mR_sR, mR_nw, mS_sI, mS_sL, mS_sR, mS_nw, mU_sI, mU_sL, mU_sR, mU_nw, Nat.reduceEqDiff, false_and, if_false, true_and]) (by
      rw [hM1, enk]; simp only [mK_sI, mK_sL, mK_sR, mK_nw, mN_sI, mN_sL, mN_sR, mN_nw, mI_sI, mI_sL, mI_sR, mI_nw, mL_sI, mL_sL, mL_sR, mL_nw, mR_sI, mR_sL, mR_sR, mR_nw, mS_sI, mS_sL, mS_sR, mS_nw, mU_sI, mU_sL, mU_sR, mU_nw, Nat.reduceEqDiff, false_and, if_false, true_and, and_self, if_true]) he (by
      rcases hup with ⟨g1, g2, g3⟩ | ⟨j, g1, g2, g3, g4, g5⟩
      · exact Or.inl ⟨g1, g2, by rw [← enk]; exact g3⟩
      · exact Or.inr ⟨j, by omega, g2, by rw [← edp j (by omega)]; exact g3, by rw [← enk, ← eka j (by omega)]; exact g5⟩)
    have ecore : core (sI (sL (sI M1 1095007 (h + 1) nk up) 2095015 (h + 2) nk 0) 1200 h 0 (nI (nk + 1))) h = uI (uL (uI (core M h) 1 nk up) 2 nk 0) 0 0 (nI (nk + 1)) := by
      rw [cu_kinds, cu_meters, cu_parent, hco]
    rw [ecore]
    have FZ : Fz [300, 301, 401] [302] [5023007] M M1 := by
      rw [hM1]
      exact (Fz.nw zc).tr (Fz.of ((((((Fx.rf.sI (by decide)).sI (by decide)).sL (by decide)).sR (by decide))).sI (by decide)))
    have mka : ∀ k, k < nk → up1 ka nk (mS M) k = ka k := fun k hk => up1_o hk
    have L' : RLs M1 x (core M h) (nk + 1) (up1 ka nk (mS M)) ns nl la := RLs_ka (by omega) mka (by
      have i1 := FZ.i
      refine ⟨L.1, by rw [FZ.i 203 (by decide)]; exact L.2.1, L.2.2.1, fun l hl => ?_⟩
      have I := LI_nw (cc := 4) (n := 0) (u := u) zc (rl_i L l hl)
      rw [hM1]
      simp only [KI_sI, KI_sL, KI_sR, KI_wI, KI_wL, KI_uI, KI_uL, KI_wcI, KI_wcL, RK_sI, RK_sL, RK_sR, RK_wI, RK_wL, RK_uI, RK_uL, RK_wcI, RK_wcL, LI_sI, LI_sL, LI_sR, LI_wI, LI_wL, LI_uI, LI_uL, LI_wcI, LI_wcL, RLs_sI, RLs_sL, RLs_sR, RLs_wI, RLs_wL, RLs_uI, RLs_uL, RLs_wcI, RLs_wcL, CI_sI, CI_sL, CI_sR, CI_wI, CI_wL, CI_uI, CI_uL, CI_wcI, CI_wcL, RC_sI, RC_sL, RC_sR, RC_wI, RC_wL, RC_uI, RC_uL, RC_wcI, RC_wcL, RS_sI, RS_sL, RS_sR, RS_wI, RS_wL, RS_uI, RS_uL, RS_wcI, RS_wcL, TI_sI, TI_sL, TI_sR, TI_wI, TI_wL, TI_uI, TI_uL, TI_wcI, TI_wcL, RT_sI, RT_sL, RT_sR, RT_wI, RT_wL, RT_uI, RT_uL, RT_wcI, RT_wcL, RA_sI, RA_sL, RA_sR, RA_wI, RA_wL, RA_uI, RA_uL, RA_wcI, RA_wcL, RP_sI, RP_sL, RP_sR, RP_wI, RP_wL, RP_uI, RP_uL, RP_wcI, RP_wcL, RV_sI, RV_sL, RV_sR, RV_wI, RV_wL, RV_uI, RV_uL, RV_wcI, RV_wcL, RW_sI, RW_sL, RW_sR, RW_wI, RW_wL, RW_uI, RW_uL, RW_wcI, RW_wcL, Nat.reduceEqDiff, not_false_eq_true]
      exact I)
    simp only [R0, KI_sI, KI_sL, KI_sR, KI_wI, KI_wL, KI_uI, KI_uL, KI_wcI, KI_wcL, RK_sI, RK_sL, RK_sR, RK_wI, RK_wL, RK_uI, RK_uL, RK_wcI, RK_wcL, LI_sI, LI_sL, LI_sR, LI_wI, LI_wL, LI_uI, LI_uL, LI_wcI, LI_wcL, RLs_sI, RLs_sL, RLs_sR, RLs_wI, RLs_wL, RLs_uI, RLs_uL, RLs_wcI, RLs_wcL, CI_sI, CI_sL, CI_sR, CI_wI, CI_wL, CI_uI, CI_uL, CI_wcI, CI_wcL, RC_sI, RC_sL, RC_sR, RC_wI, RC_wL, RC_uI, RC_uL, RC_wcI, RC_wcL, RS_sI, RS_sL, RS_sR, RS_wI, RS_wL, RS_uI, RS_uL, RS_wcI, RS_wcL, TI_sI, TI_sL, TI_sR, TI_wI, TI_wL, TI_uI, TI_uL, TI_wcI, TI_wcL, RT_sI, RT_sL, RT_sR, RT_wI, RT_wL, RT_uI, RT_uL, RT_wcI, RT_wcL, RA_sI, RA_sL, RA_sR, RA_wI, RA_wL, RA_uI, RA_uL, RA_wcI, RA_wcL, RP_sI, RP_sL, RP_sR, RP_wI, RP_wL, RP_uI, RP_uL, RP_wcI, RP_wcL, RV_sI, RV_sL, RV_sR, RV_wI, RV_wL, RV_uI, RV_uL, RV_wcI, RV_wcL, RW_sI, RW_sL, RW_sR, RW_wI, RW_wL, RW_uI, RW_uL, RW_wcI, RW_wcL, SH_sI, SH_sL, SH_wI, SH_wL, mK_sI, mK_sL, mK_sR, mK_nw, mN_sI, mN_sL, mN_sR, mN_nw, mI_sI, mI_sL, mI_sR, mI_nw, mL_sI, mL_sL, mL_sR, mL_nw, mR_sI, mR_sL, mR_sR, mR_nw, mS_sI, mS_sL, mS_sR, mS_nw, mU_sI, mU_sL, mU_sR, mU_nw, Nat.reduceEqDiff, not_false_eq_true, false_and, if_false]
    refine ⟨⟨RZ_kind (M := M) zs zu (by rw [hM1]; rfl) (by rw [hM1]; show mU M + u ≤ _; omega) ?_, SH_fz FZ (by decide) (by decide) S, K', L', RC_dp (fun l hl => ?_) (by rw [RC_fz FZ (by decide)]; exact r0_c R), by rw [RS_fz FZ (by decide)]; exact C, by rw [RT_fz FZ (by decide) (by decide)]; exact T, RA_ka (by omega) mka (by rw [RA_fz FZ (by decide) (by decide) (by decide)]; exact r0_a R)⟩, by rw [RP_fz FZ (by decide) (by decide)]; exact P, by rw [RV_fz FZ (by decide) (by decide)]; exact V, by rw [FZ.i 1003 (by decide)]; exact w1, by rw [FZ.i 1002 (by decide)]; exact w2, w3⟩
    · refine cl_sI (cl_sL (cl_sI ?_ ?_) ?_) ?_
      · rw [hM1]
        refine cl_sI (cl_sR (cl_sL (cl_sI (cl_sI (cl_nw zc) ?_) ?_) ?_) ?_) ?_
        · rw [mK_nw, if_pos rfl]; decide
        · rw [mK_sI, mK_nw, if_pos rfl]; decide
        · rw [mK_sI, mK_sI, mK_nw, if_pos rfl]; decide
        · rw [mK_sL, mK_sI, mK_sI, mK_nw, if_neg (by omega), (sh_k2 S).1]; decide
        · rw [mK_sR, mK_sL, mK_sI, mK_sI, mK_nw, if_neg (by omega), (sh_k1 S).1]; decide
      · rw [(rm_parent H1).2.1]; decide
      · rw [mK_sI, (rm_meters H1).2.1]; decide
      · rw [mK_sL, mK_sI, RM.k H1]; decide
    · obtain ⟨k, k1, k2, k3⟩ := li_kind (rl_i L l hl)
      rw [dqc, dqc, k3, nI_clamp (by omega), up1_o k1]
set_option maxRecDepth 20000 in
theorem y_kind {D : DD} {d : Nat} {M : Mem} {x h S0 U0 : Nat} (hR : Rel M x h S0 U0) (u : Int32) : Call D (d + 20) mi_X11_kind [.ref x, .int u] M (PrI D (d + 20) mi_X12_kind [.ref h, .int u] x h S0 U0) := by
  have hR' := hR
  obtain ⟨H, nk, ka, dp, ns, nl, la, ch, cu, nf, lg, wf, R, P, V, w1, w2, w3⟩ := hR
  have zs := rz_s (r0_z R)
  have zu := rz_u (r0_z R)
  have zc := rz_cl (r0_z R)
  have S := r0_sh R
  have K := r0_k R
  have L := r0_l R
  have C := r0_s R
  have T := r0_t R
  have nk40 := rk_le K
  have nl200 := rl_le L
  have ns30 := rs_le C
  have r_kinds : (mI M 1200 h 0) = nI nk := rk_c K
  have r_listeners : (mI M 1205 h 0) = nI nl := rl_c L
  have r_scenes : (mI M 1203 h 0) = nI ns := rs_c C
  have hP := Par_of K
  have ksz := rk_sz K
  have xlt : x + 48 < mS M := cl_lt zc (by have := (sh_tray S (show 7 < 8 by omega)).2.2.2.1; rw [show x + 34 + 2 * 7 = x + 48 by omega] at this; rw [this]; decide)
  by_cases e : inN u nk
  · obtain ⟨j, hj, rfl⟩ := inN_of e (by omega)
    have I := rk_i K j hj
    have q1 := ki_k I
    have q2 := ki_dep I
    have q3 := ki_dp I
    by_cases e1 : dp j < 10
    · by_cases e2 : nk = 40
      · refine call_of (by decide) (Nat.le_of_ble_eq_true rfl) (run0 (tbk_X11_kind (csj_c mn_X2_find (c_hfind (x := x) (c := core M h) (nk := nk) (ka := ka) (ns := ns) (nl := nl) (la := la)) (csj_c mn_X4_find (c_kfind (x := x) (c := core M h) (nk := nk) (ka := ka) (dp := dp)) (csj_c mn_X11_findTray (c_tfind (x := x)) (csj_c mn_X11_isPhase c_phase (csj_c mn_X2_hadScene (c_had (x := x) (c := core M h) (ns := ns) (nl := nl)) (csj_c mn_X2_isOpen (c_isOpen (x := x) (c := core M h) (ns := ns) (nl := nl)) (csj_c mn_X2_admits (c_admits (x := x) (c := core M h) (ns := ns) (nl := nl)) (csj_n (Jok 8 (d + 11))))))))))) 90 ?_)
        simp -implicitDefEqProofs +decide only [go_0, pI_i, pL_i, pA_i, pA_s, pV_i, oI_i, oL_i, oV_i, lk, rm1, rm2, isR_rf, isR_ref, isR_null, rfo_rf, rfo_ref, rfo_null, rf_some, rf_none, rf_eq_null, rf_eq_ref, ↓nl_n, ↓nl_r, nl_rf, cat_i, cat_l, cat_r, cat_n, cat_rf, lv_args, pN_0, pN_s, tr_ic, tr_lc, tr_null, tr_iload, tr_lload, tr_aload, tr_istore, tr_lstore, tr_astore, tr_iinc, tr_iadd, tr_isub, tr_imul, tr_iand, tr_irem, tr_ladd, tr_lsub, tr_land, tr_lor, tr_lshl, tr_ldiv, tr_lrem, tr_i2l, tr_l2i, tr_i2b, tr_lcmp, tr_dup, tr_dup2, tr_pop, tr_goto, tr_ifeq, tr_ifne, tr_iflt, tr_ifge, tr_ifgt, tr_ifle, tr_iceq, tr_icne, tr_iclt, tr_icge, tr_icgt, tr_icle, tr_ifnull, tr_ifnonnull, tr_sw, tr_getI, tr_getL, tr_getR, tr_putI, tr_putZ, tr_putL, tr_putR, tr_iald, tr_lald, tr_bald, tr_aald, tr_alen, tr_iast, tr_bast, tr_last, tr_aast, tr_newa, tr_anew, tr_new, tr_callV, tr_callS, tr_callI, tr_obj, tr_iret, tr_zret, tr_lret, tr_aret, tr_ret, Nat.reduceAdd, Nat.reduceMul, Nat.reduceDiv, Nat.reduceEqDiff, Nat.reduceLT, Nat.reduceLeDiff, ↓reduceIte, true_and, and_true, true_or, or_true, List.length_nil, List.length_cons, List.nil_append, List.cons_append, Option.toList_some, Option.toList_none, and_self, or_false, false_or, false_and, and_false, imp_self, forall_const, Nat.one_ne_zero, Nat.succ_ne_self, not_true_eq_false, not_false_eq_true, reduceCtorEq, Nat.add_eq_right, Nat.add_eq_left, Nat.add_left_cancel_iff, Nat.zero_add, Int32.reduceLT, Int32.reduceLE, Int32.reduceAdd, Int32.reduceSub, Int32.reduceMul, lg_cmp_ge, lg_cmp_le, lg_cmp_gt, lg_cmp_lt, lg_cmp_eq, i10, i01, eq_self, false_implies, true_implies, implies_true, mK_sI, mK_sL, mK_sR, mK_nw, mN_sI, mN_sL, mN_sR, mN_nw, mI_sI, mI_sL, mI_sR, mI_nw, mL_sI, mL_sL, mL_sR, mL_nw, mR_sI, mR_sL, mR_sR, mR_nw, mS_sI, mS_sL, mS_sR, mS_nw, mU_sI, mU_sL, mU_sR, mU_nw, sw, csj, inl, lgn, lgc, sp_hfind, sp_kfind, sp_tfind, sp_phase, sp_had, sp_isOpen, sp_admits, S, K, L, C, sh_x S, (sh_k1 S).1, (sh_k1 S).2, (sh_k3 S).1, (sh_k3 S).2, (sh_k8 S).1, (sh_k8 S).2, (sh_k11 S).1, (sh_k11 S).2, (sh_k16 S).1, (sh_k16 S).2, (sh_k17 S).1, (sh_k17 S).2, (sh_k2 S).1, (sh_k2 S).2, (sh_k4 S).1, (sh_k4 S).2, (sh_k5 S).1, (sh_k5 S).2, (sh_k6 S).1, (sh_k6 S).2, (sh_k7 S).1, (sh_k7 S).2, (sh_k9 S).1, (sh_k9 S).2, (sh_k10 S).1, (sh_k10 S).2, (sh_k12 S).1, (sh_k12 S).2, (sh_k13 S).1, (sh_k13 S).2, (sh_k14 S).1, (sh_k14 S).2, (sh_k15 S).1, (sh_k15 S).2, (sh_k18 S).1, (sh_k18 S).2, (sh_k19 S).1, (sh_k19 S).2, (sh_k20 S).1, (sh_k20 S).2, sh_Desk_kinds S, sh_Desk_house S, sh_Desk_trays S, sh_Desk_acts S, sh_Desk_report S, sh_Desk_teller S, sh_Kinds_all S, sh_House_all S, sh_House_firsts S, sh_House_open S, sh_Acts_of S, sh_Acts_values S, sh_Report_log S, sh_Report_failureOf S, sh_Report_failureBy S, sh_Report_failureAt S, sh_Teller_kinds S, sh_Teller_house S, sh_Teller_trays S, sh_Teller_acts S, sh_Teller_report S, sh_Teller_waiting S, sh_Teller_cues S, sh_Waiting_of S, sh_Waiting_values S, J_X4_add, a_X4_add_0, a_X4_add_1, a_X4_add_4, a_X4_add_6, a_X4_add_9, a_X4_add_11, a_X4_add_12, a_X4_add_13, a_X4_add_16, a_X4_add_17, a_X4_add_20, a_X4_add_23, a_X4_add_24, a_X4_add_25, a_X4_add_28, a_X4_add_29, a_X4_add_32, a_X4_add_33, a_X4_add_34, a_X4_add_35, a_X4_add_38, a_X4_add_39, a_X4_add_40, a_X4_add_43, a_X4_add_44, a_X4_add_47, a_X4_add_48, a_X4_add_49, inN_nI hj (show nk < 2 ^ 31 by omega), nI_clamp (show j < 2 ^ 31 by omega), q1, q2, ksz, nI_ltL (n := 10) (L := 10) rfl (show dp j < 2 ^ 31 by omega) (by decide), e1, nI_ltL (n := 40) (L := 40) rfl (show nk < 2 ^ 31 by omega) (by decide), show ¬ nk < 40 by omega, a_X11_kind_0, a_X11_kind_1, a_X11_kind_4, a_X11_kind_5, a_X11_kind_8, a_X11_kind_9, a_X11_kind_10, a_X11_kind_13, a_X11_kind_14, a_X11_kind_16, a_X11_kind_19, a_X11_kind_20, a_X11_kind_21, a_X11_kind_22, a_X11_kind_25, a_X11_kind_26, a_X11_kind_29, a_X11_kind_31, a_X11_kind_34, a_X11_kind_36, a_X11_kind_37, a_X11_kind_38, a_X11_kind_41, a_X11_kind_42, a_X11_kind_45]
        refine ⟨_, rfl, ?_⟩
        exact y_kindRef H hP r_kinds (Or.inr ⟨j, hj, rfl⟩) (fun ⟨j', g1, g2, g3⟩ => by
          have := (nI_eq (by omega) (by omega)).mp g2
          subst this; omega) (fun _ _ => ⟨rfl, hR'⟩) (fun _ q => by omega)
      · have nka : ¬ ka j = mS M := by
          have := cl_lt zc (a := ka j) (by rw [q1]; decide)
          omega
        have e40 : nk < 40 := by omega
        refine call_of (by decide) (Nat.le_of_ble_eq_true rfl) (run0 (tbk_X11_kind (csj_c mn_X2_find (c_hfind (x := x) (c := core M h) (nk := nk) (ka := ka) (ns := ns) (nl := nl) (la := la)) (csj_c mn_X4_find (c_kfind (x := x) (c := core M h) (nk := nk) (ka := ka) (dp := dp)) (csj_c mn_X11_findTray (c_tfind (x := x)) (csj_c mn_X11_isPhase c_phase (csj_c mn_X2_hadScene (c_had (x := x) (c := core M h) (ns := ns) (nl := nl)) (csj_c mn_X2_isOpen (c_isOpen (x := x) (c := core M h) (ns := ns) (nl := nl)) (csj_c mn_X2_admits (c_admits (x := x) (c := core M h) (ns := ns) (nl := nl)) (csj_n (Jok 8 (d + 11))))))))))) 120 ?_)
        simp -implicitDefEqProofs +decide only [go_0, pI_i, pL_i, pA_i, pA_s, pV_i, oI_i, oL_i, oV_i, lk, rm1, rm2, isR_rf, isR_ref, isR_null, rfo_rf, rfo_ref, rfo_null, rf_some, rf_none, rf_eq_null, rf_eq_ref, ↓nl_n, ↓nl_r, nl_rf, cat_i, cat_l, cat_r, cat_n, cat_rf, lv_args, pN_0, pN_s, tr_ic, tr_lc, tr_null, tr_iload, tr_lload, tr_aload, tr_istore, tr_lstore, tr_astore, tr_iinc, tr_iadd, tr_isub, tr_imul, tr_iand, tr_irem, tr_ladd, tr_lsub, tr_land, tr_lor, tr_lshl, tr_ldiv, tr_lrem, tr_i2l, tr_l2i, tr_i2b, tr_lcmp, tr_dup, tr_dup2, tr_pop, tr_goto, tr_ifeq, tr_ifne, tr_iflt, tr_ifge, tr_ifgt, tr_ifle, tr_iceq, tr_icne, tr_iclt, tr_icge, tr_icgt, tr_icle, tr_ifnull, tr_ifnonnull, tr_sw, tr_getI, tr_getL, tr_getR, tr_putI, tr_putZ, tr_putL, tr_putR, tr_iald, tr_lald, tr_bald, tr_aald, tr_alen, tr_iast, tr_bast, tr_last, tr_aast, tr_newa, tr_anew, tr_new, tr_callV, tr_callS, tr_callI, tr_obj, tr_iret, tr_zret, tr_lret, tr_aret, tr_ret, Nat.reduceAdd, Nat.reduceMul, Nat.reduceDiv, Nat.reduceEqDiff, Nat.reduceLT, Nat.reduceLeDiff, ↓reduceIte, true_and, and_true, true_or, or_true, List.length_nil, List.length_cons, List.nil_append, List.cons_append, Option.toList_some, Option.toList_none, and_self, or_false, false_or, false_and, and_false, imp_self, forall_const, Nat.one_ne_zero, Nat.succ_ne_self, not_true_eq_false, not_false_eq_true, reduceCtorEq, Nat.add_eq_right, Nat.add_eq_left, Nat.add_left_cancel_iff, Nat.zero_add, Int32.reduceLT, Int32.reduceLE, Int32.reduceAdd, Int32.reduceSub, Int32.reduceMul, lg_cmp_ge, lg_cmp_le, lg_cmp_gt, lg_cmp_lt, lg_cmp_eq, i10, i01, eq_self, false_implies, true_implies, implies_true, mK_sI, mK_sL, mK_sR, mK_nw, mN_sI, mN_sL, mN_sR, mN_nw, mI_sI, mI_sL, mI_sR, mI_nw, mL_sI, mL_sL, mL_sR, mL_nw, mR_sI, mR_sL, mR_sR, mR_nw, mS_sI, mS_sL, mS_sR, mS_nw, mU_sI, mU_sL, mU_sR, mU_nw, sw, csj, inl, lgn, lgc, sp_hfind, sp_kfind, sp_tfind, sp_phase, sp_had, sp_isOpen, sp_admits, S, K, L, C, sh_x S, (sh_k1 S).1, (sh_k1 S).2, (sh_k3 S).1, (sh_k3 S).2, (sh_k8 S).1, (sh_k8 S).2, (sh_k11 S).1, (sh_k11 S).2, (sh_k16 S).1, (sh_k16 S).2, (sh_k17 S).1, (sh_k17 S).2, (sh_k2 S).1, (sh_k2 S).2, (sh_k4 S).1, (sh_k4 S).2, (sh_k5 S).1, (sh_k5 S).2, (sh_k6 S).1, (sh_k6 S).2, (sh_k7 S).1, (sh_k7 S).2, (sh_k9 S).1, (sh_k9 S).2, (sh_k10 S).1, (sh_k10 S).2, (sh_k12 S).1, (sh_k12 S).2, (sh_k13 S).1, (sh_k13 S).2, (sh_k14 S).1, (sh_k14 S).2, (sh_k15 S).1, (sh_k15 S).2, (sh_k18 S).1, (sh_k18 S).2, (sh_k19 S).1, (sh_k19 S).2, (sh_k20 S).1, (sh_k20 S).2, sh_Desk_kinds S, sh_Desk_house S, sh_Desk_trays S, sh_Desk_acts S, sh_Desk_report S, sh_Desk_teller S, sh_Kinds_all S, sh_House_all S, sh_House_firsts S, sh_House_open S, sh_Acts_of S, sh_Acts_values S, sh_Report_log S, sh_Report_failureOf S, sh_Report_failureBy S, sh_Report_failureAt S, sh_Teller_kinds S, sh_Teller_house S, sh_Teller_trays S, sh_Teller_acts S, sh_Teller_report S, sh_Teller_waiting S, sh_Teller_cues S, sh_Waiting_of S, sh_Waiting_values S, J_X4_add, J_X3_init, a_X4_add_0, a_X4_add_1, a_X4_add_4, a_X4_add_6, a_X4_add_9, a_X4_add_11, a_X4_add_12, a_X4_add_13, a_X4_add_16, a_X4_add_17, a_X4_add_20, a_X4_add_23, a_X4_add_24, a_X4_add_25, a_X4_add_28, a_X4_add_29, a_X4_add_32, a_X4_add_33, a_X4_add_34, a_X4_add_35, a_X4_add_38, a_X4_add_39, a_X4_add_40, a_X4_add_43, a_X4_add_44, a_X4_add_47, a_X4_add_48, a_X4_add_49, a_X3_init_0, a_X3_init_1, a_X3_init_4, a_X3_init_5, a_X3_init_6, a_X3_init_9, a_X3_init_10, a_X3_init_11, a_X3_init_14, a_X3_init_15, a_X3_init_18, a_X3_init_19, a_X3_init_22, a_X3_init_23, a_X3_init_24, a_X3_init_27, a_X3_init_28, a_X3_init_29, a_X3_init_30, a_X3_init_31, a_X3_init_32, a_X3_init_35, a_X3_init_36, a_X3_init_39, a_X3_init_40, a_X3_init_43, a_X3_init_44, a_X3_init_47, inN_nI hj (show nk < 2 ^ 31 by omega), nI_clamp (show j < 2 ^ 31 by omega), q1, q2, ksz, nI_ltL (n := 10) (L := 10) rfl (show dp j < 2 ^ 31 by omega) (by decide), e1, nI_ltL (n := 40) (L := 40) rfl (show nk < 2 ^ 31 by omega) (by decide), e40, ← nI_succ, nI_pred, nI_clamp (show nk < 2 ^ 31 by omega), vp_in_nI e40 (by decide), nka, show ¬ x = mS M by omega, show ¬ x + 1 = mS M by omega, show ¬ x + 2 = mS M by omega, a_X11_kind_0, a_X11_kind_1, a_X11_kind_4, a_X11_kind_5, a_X11_kind_8, a_X11_kind_9, a_X11_kind_10, a_X11_kind_13, a_X11_kind_14, a_X11_kind_16, a_X11_kind_19, a_X11_kind_20, a_X11_kind_21, a_X11_kind_22, a_X11_kind_25, a_X11_kind_26, a_X11_kind_29, a_X11_kind_31, a_X11_kind_34, a_X11_kind_36, a_X11_kind_37, a_X11_kind_38, a_X11_kind_41, a_X11_kind_42, a_X11_kind_45]
        sorry
    · sorry
  · sorry
