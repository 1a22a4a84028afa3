/-! The class is made -/
/-- cells made one behind the other: colours, lengths, links -/
def At (Mb : Mem) (x : Nat) (ki kr : List Nat) (k u : Nat) (O R : List (Nat × Nat × Nat)) (M : Mem) : Prop := mS M = x + k ∧ mU M = mU Mb + u ∧ Fz ki [] kr Mb M ∧ Cln M ∧ (∀ q ∈ O, q.1 < k ∧ mK M (x + q.1) = q.2.1 ∧ mN M (x + q.1) = q.2.2) ∧ (∀ q ∈ R, mR M q.1 (x + q.2.1) 0 = some (x + q.2.2))
theorem At.nw {Mb M : Mem} {x k u : Nat} {ki kr : List Nat} {O R : List (Nat × Nat × Nat)} (h : At Mb x ki kr k u O R M) {c n w : Nat} : At Mb x ki kr (k + 1) (u + w) ((k, c, n) :: O) R (nw M c n w) := by
  obtain ⟨h1, h2, h3, h4, h5, h6⟩ := h
  refine ⟨by rw [mS_nw, h1]; rfl, by rw [mU_nw, h2, Nat.add_assoc], h3.tr (Fz.nw h4), cl_nw h4, fun q hq => ?_, h6⟩
  rcases List.mem_cons.mp hq with rfl | hq
  · exact ⟨Nat.lt_succ_self _, by rw [mK_nw, if_pos h1.symm], by rw [mN_nw, if_pos h1.symm]⟩
  · obtain ⟨g1, g2, g3⟩ := h5 q hq
    exact ⟨by omega, by rw [mK_nw, if_neg (by omega)]; exact g2, by rw [mN_nw, if_neg (by omega)]; exact g3⟩
theorem At.k {Mb M : Mem} {x k u : Nat} {ki kr : List Nat} {O R : List (Nat × Nat × Nat)} (h : At Mb x ki kr k u O R M) (o : Nat) (hO : O.any (fun q => q.1 == o && q.2.1 != 0) = true) : mK M (x + o) ≠ 0 := by
  obtain ⟨q, hq, h2⟩ := List.any_eq_true.mp hO
  simp only [Bool.and_eq_true, beq_iff_eq, bne_iff_ne] at h2
  have := (h.2.2.2.2.1 q hq).2.1
  rw [← h2.1, this]; exact h2.2
theorem At.sR {Mb M : Mem} {x k u : Nat} {ki kr : List Nat} {O R : List (Nat × Nat × Nat)} (h : At Mb x ki kr k u O R M) {key o t : Nat} (hO : O.any (fun q => q.1 == o && q.2.1 != 0) = true) (hk : key ∈ kr) (hf : R.all (fun q => !(q.1 == key && q.2.1 == o)) = true) : At Mb x ki kr k u O ((key, o, t) :: R) (sR M key (x + o) 0 (some (x + t))) := by
  have hz := h.k o hO
  obtain ⟨h1, h2, h3, h4, h5, h6⟩ := h
  refine ⟨h1, h2, h3.tr (Fz.of (Fx.rf.sR hk)), cl_sR h4 hz, h5, fun q hq => ?_⟩
  rcases List.mem_cons.mp hq with rfl | hq
  · rw [mR_sR, if_pos ⟨rfl, rfl, rfl⟩]
  · have := List.all_eq_true.mp hf q hq
    rw [mR_sR, if_neg (fun z => by
      have e : (q.1 == key && q.2.1 == o) = true := by rw [Bool.and_eq_true]; exact ⟨by rw [beq_iff_eq]; exact z.1, by rw [beq_iff_eq]; have := z.2.1; omega⟩
      rw [e] at this; cases this)]
    exact h6 q hq
theorem At.sI {Mb M : Mem} {x k u : Nat} {ki kr : List Nat} {O R : List (Nat × Nat × Nat)} (h : At Mb x ki kr k u O R M) {key o i : Nat} {v : Int32} (hO : O.any (fun q => q.1 == o && q.2.1 != 0) = true) (hk : key ∈ ki) : At Mb x ki kr k u O R (sI M key (x + o) i v) := by
  have hz := h.k o hO
  obtain ⟨h1, h2, h3, h4, h5, h6⟩ := h
  exact ⟨h1, h2, h3.tr (Fz.of (Fx.rf.sI hk)), cl_sI h4 hz, h5, h6⟩
def kti : List Nat := [100, 710, 901]
def ktr : List Nat := [400, 200, 201, 202, 1100, 1101, 1102, 1103, 1104, 1105, 0, 1, 700, 701, 702, 703, 800, 801, 802, 803, 804, 805, 806, 1000, 1001, 4038071, 7038029, 900]
/-- k cues are made -/
def IC (Mb : Mem) (x k : Nat) (M : Mem) : Prop := Fz kti [] ktr Mb M ∧ Cln M ∧ mS M = x + 37 + k ∧ mU M = mU Mb + 5 * k ∧ (∀ key q i, ¬ key = 4038071 → mR M key q i = mR Mb key q i) ∧ (∀ key q i, ¬ key = 100 → mI M key q i = mI Mb key q i) ∧ ∀ e, e < k → mR M 4038071 (x + 20) e = some (x + 37 + e) ∧ mK M (x + 37 + e) = 2 ∧ mI M 100 (x + 37 + e) 0 = nI (e + 1)
set_option maxRecDepth 20000 in
theorem l_ti {D : DD} {d x : Nat} {M0 Mb : Mem} {Q : Qt} (hk : mK Mb (x + 1) = 9) (hr : mR Mb 806 (x + 1) 0 = some (x + 20)) (h4 : mK Mb (x + 20) = 4038071) (hn : mN Mb (x + 20) = 12) (hq : ∀ M, IC Mb x 12 M → Q M none) : ∀ (r k : Nat) (M : Mem), k + r = 12 → IC Mb x k M → wp D (d + 3) mi_X8_init M0 M 106 [(0, .ref (x + 1)), (1, .int (nI k))] [] Q := by
  intro r
  induction r with
  | zero =>
    intro k M hr hI
    have e : k = 12 := by omega
    subst e
    refine runL 106 (tbk_X8_init (csj_n (Jok 2 d))) 40 ?_
    simp -implicitDefEqProofs +decide only [go_0, pI_i, pL_i, pA_i, pA_s, pV_i, oI_i, oL_i, oV_i, lk, rm1, rm2, isR_rf, isR_ref, isR_null, rfo_rf, rfo_ref, rfo_null, rf_some, rf_none, rf_eq_null, rf_eq_ref, ↓nl_n, ↓nl_r, nl_rf, cat_i, cat_l, cat_r, cat_n, cat_rf, lv_args, pN_0, pN_s, tr_ic, tr_lc, tr_null, tr_iload, tr_lload, tr_aload, tr_istore, tr_lstore, tr_astore, tr_iinc, tr_iadd, tr_isub, tr_imul, tr_iand, tr_irem, tr_ladd, tr_lsub, tr_land, tr_lor, tr_lshl, tr_ldiv, tr_lrem, tr_i2l, tr_l2i, tr_i2b, tr_lcmp, tr_dup, tr_dup2, tr_pop, tr_goto, tr_ifeq, tr_ifne, tr_iflt, tr_ifge, tr_ifgt, tr_ifle, tr_iceq, tr_icne, tr_iclt, tr_icge, tr_icgt, tr_icle, tr_ifnull, tr_ifnonnull, tr_sw, tr_getI, tr_getL, tr_getR, tr_putI, tr_putZ, tr_putL, tr_putR, tr_iald, tr_lald, tr_bald, tr_aald, tr_alen, tr_iast, tr_bast, tr_last, tr_aast, tr_newa, tr_anew, tr_new, tr_callV, tr_callS, tr_callI, tr_obj, tr_iret, tr_zret, tr_lret, tr_aret, tr_ret, Nat.reduceAdd, Nat.reduceMul, Nat.reduceDiv, Nat.reduceEqDiff, Nat.reduceLT, Nat.reduceLeDiff, ↓reduceIte, true_and, and_true, true_or, or_true, List.length_nil, List.length_cons, List.nil_append, List.cons_append, Option.toList_some, Option.toList_none, and_self, or_false, false_or, false_and, and_false, imp_self, forall_const, Nat.one_ne_zero, Nat.succ_ne_self, not_true_eq_false, not_false_eq_true, reduceCtorEq, Nat.add_eq_right, Nat.add_eq_left, Nat.add_left_cancel_iff, Nat.zero_add, Int32.reduceLT, Int32.reduceLE, Int32.reduceAdd, Int32.reduceSub, Int32.reduceMul, lg_cmp_ge, lg_cmp_le, lg_cmp_gt, lg_cmp_lt, lg_cmp_eq, i10, i01, eq_self, false_implies, true_implies, implies_true, mK_sI, mK_sL, mK_sR, mK_nw, mN_sI, mN_sL, mN_sR, mN_nw, mI_sI, mI_sL, mI_sR, mI_nw, mL_sI, mL_sL, mL_sR, mL_nw, mR_sI, mR_sL, mR_sR, mR_nw, mS_sI, mS_sL, mS_sR, mS_nw, mU_sI, mU_sL, mU_sR, mU_nw, go_1, csj, inl, lgn, lgc, nI_leL (n := 12) (L := 12) rfl (show 12 < 2 ^ 31 by omega) (by decide), Nat.le_refl, a_X8_init_0, a_X8_init_1, a_X8_init_4, a_X8_init_5, a_X8_init_8, a_X8_init_9, a_X8_init_12, a_X8_init_15, a_X8_init_16, a_X8_init_19, a_X8_init_20, a_X8_init_23, a_X8_init_26, a_X8_init_27, a_X8_init_29, a_X8_init_32, a_X8_init_35, a_X8_init_36, a_X8_init_39, a_X8_init_40, a_X8_init_43, a_X8_init_46, a_X8_init_47, a_X8_init_50, a_X8_init_51, a_X8_init_54, a_X8_init_57, a_X8_init_58, a_X8_init_61, a_X8_init_62, a_X8_init_65, a_X8_init_68, a_X8_init_69, a_X8_init_71, a_X8_init_74, a_X8_init_77, a_X8_init_78, a_X8_init_79, a_X8_init_80, a_X8_init_82, a_X8_init_85, a_X8_init_86, a_X8_init_89, a_X8_init_90, a_X8_init_93, a_X8_init_94, a_X8_init_97, a_X8_init_98, a_X8_init_101, a_X8_init_104, a_X8_init_105, a_X8_init_106, a_X8_init_107, a_X8_init_109, a_X8_init_112, a_X8_init_113, a_X8_init_116, a_X8_init_117, a_X8_init_120, a_X8_init_121, a_X8_init_122, a_X8_init_123, a_X8_init_124, a_X8_init_127, a_X8_init_128, a_X8_init_131, a_X8_init_134]
    exact hq M hI
  | succ r ih =>
    intro k M hkr hI
    have hI' := hI
    obtain ⟨F, hc, hS, hU, hR, hJ, hE⟩ := hI
    have k1 := F.1 (x + 1) (by rw [hk]; decide)
    have k2 := F.1 (x + 20) (by rw [h4]; decide)
    have c1 : mK M (x + 1) = 9 := k1.1.trans hk
    have c2 : mK M (x + 20) = 4038071 := k2.1.trans h4
    have c3 : mN M (x + 20) = 12 := k2.2.trans hn
    have c4 : mR M 806 (x + 1) 0 = some (x + 20) := (hR _ _ _ (by decide)).trans hr
    refine runL 106 (tbk_X8_init (csj_n (Jok 2 d))) 60 ?_
    simp -implicitDefEqProofs +decide only [go_0, pI_i, pL_i, pA_i, pA_s, pV_i, oI_i, oL_i, oV_i, lk, rm1, rm2, isR_rf, isR_ref, isR_null, rfo_rf, rfo_ref, rfo_null, rf_some, rf_none, rf_eq_null, rf_eq_ref, ↓nl_n, ↓nl_r, nl_rf, cat_i, cat_l, cat_r, cat_n, cat_rf, lv_args, pN_0, pN_s, tr_ic, tr_lc, tr_null, tr_iload, tr_lload, tr_aload, tr_istore, tr_lstore, tr_astore, tr_iinc, tr_iadd, tr_isub, tr_imul, tr_iand, tr_irem, tr_ladd, tr_lsub, tr_land, tr_lor, tr_lshl, tr_ldiv, tr_lrem, tr_i2l, tr_l2i, tr_i2b, tr_lcmp, tr_dup, tr_dup2, tr_pop, tr_goto, tr_ifeq, tr_ifne, tr_iflt, tr_ifge, tr_ifgt, tr_ifle, tr_iceq, tr_icne, tr_iclt, tr_icge, tr_icgt, tr_icle, tr_ifnull, tr_ifnonnull, tr_sw, tr_getI, tr_getL, tr_getR, tr_putI, tr_putZ, tr_putL, tr_putR, tr_iald, tr_lald, tr_bald, tr_aald, tr_alen, tr_iast, tr_bast, tr_last, tr_aast, tr_newa, tr_anew, tr_new, tr_callV, tr_callS, tr_callI, tr_obj, tr_iret, tr_zret, tr_lret, tr_aret, tr_ret, Nat.reduceAdd, Nat.reduceMul, Nat.reduceDiv, Nat.reduceEqDiff, Nat.reduceLT, Nat.reduceLeDiff, ↓reduceIte, true_and, and_true, true_or, or_true, List.length_nil, List.length_cons, List.nil_append, List.cons_append, Option.toList_some, Option.toList_none, and_self, or_false, false_or, false_and, and_false, imp_self, forall_const, Nat.one_ne_zero, Nat.succ_ne_self, not_true_eq_false, not_false_eq_true, reduceCtorEq, Nat.add_eq_right, Nat.add_eq_left, Nat.add_left_cancel_iff, Nat.zero_add, Int32.reduceLT, Int32.reduceLE, Int32.reduceAdd, Int32.reduceSub, Int32.reduceMul, lg_cmp_ge, lg_cmp_le, lg_cmp_gt, lg_cmp_lt, lg_cmp_eq, i10, i01, eq_self, false_implies, true_implies, implies_true, mK_sI, mK_sL, mK_sR, mK_nw, mN_sI, mN_sL, mN_sR, mN_nw, mI_sI, mI_sL, mI_sR, mI_nw, mL_sI, mL_sL, mL_sR, mL_nw, mR_sI, mR_sL, mR_sR, mR_nw, mS_sI, mS_sL, mS_sR, mS_nw, mU_sI, mU_sL, mU_sR, mU_nw, go_1, csj, inl, lgn, lgc, J_X1_init, a_X1_init_0, a_X1_init_1, a_X1_init_4, a_X1_init_5, a_X1_init_6, a_X1_init_9, c1, c2, c3, c4, nI_leL (n := 12) (L := 12) rfl (show k < 2 ^ 31 by omega) (by decide), show ¬ 12 ≤ k by omega, show ¬ x + 1 = mS M by omega, show ¬ x + 20 = mS M by omega, nI_clamp (show k < 2 ^ 31 by omega), vp_in_nI (show k < 12 by omega) (by decide), ← nI_succ, a_X8_init_0, a_X8_init_1, a_X8_init_4, a_X8_init_5, a_X8_init_8, a_X8_init_9, a_X8_init_12, a_X8_init_15, a_X8_init_16, a_X8_init_19, a_X8_init_20, a_X8_init_23, a_X8_init_26, a_X8_init_27, a_X8_init_29, a_X8_init_32, a_X8_init_35, a_X8_init_36, a_X8_init_39, a_X8_init_40, a_X8_init_43, a_X8_init_46, a_X8_init_47, a_X8_init_50, a_X8_init_51, a_X8_init_54, a_X8_init_57, a_X8_init_58, a_X8_init_61, a_X8_init_62, a_X8_init_65, a_X8_init_68, a_X8_init_69, a_X8_init_71, a_X8_init_74, a_X8_init_77, a_X8_init_78, a_X8_init_79, a_X8_init_80, a_X8_init_82, a_X8_init_85, a_X8_init_86, a_X8_init_89, a_X8_init_90, a_X8_init_93, a_X8_init_94, a_X8_init_97, a_X8_init_98, a_X8_init_101, a_X8_init_104, a_X8_init_105, a_X8_init_106, a_X8_init_107, a_X8_init_109, a_X8_init_112, a_X8_init_113, a_X8_init_116, a_X8_init_117, a_X8_init_120, a_X8_init_121, a_X8_init_122, a_X8_init_123, a_X8_init_124, a_X8_init_127, a_X8_init_128, a_X8_init_131, a_X8_init_134]
    refine ⟨fun b hb => ?_, ?_⟩
    · cases hb
      rw [if_pos rfl]; rfl
    · have hcl : Cln (sR (sI (nw M 2 0 5) 100 (mS M) 0 (nI (k + 1))) 4038071 (x + 20) k (some (mS M))) := cl_sR (cl_sI (cl_nw hc) (by rw [mK_nw, if_pos rfl]; decide)) (by rw [mK_sI, mK_nw, if_neg (by omega), c2]; decide)
      refine wp_sub ?_ (ih (k + 1) (sR (sI (nw M 2 0 5) 100 (mS M) 0 (nI (k + 1))) 4038071 (x + 20) k (some (mS M))) (by omega) ⟨F.tr ((Fz.nw hc).tr (Fz.of ((Fx.rf.sI (by decide)).sR (by decide)))), hcl, ?_, ?_, fun key q i hne => ?_, fun key q i hne => ?_, fun e he => ?_⟩)
      · intro q hq
        simp only [List.mem_cons, List.not_mem_nil, or_false] at hq ⊢
        rcases hq with rfl | rfl <;> simp
      · show mS M + 1 = _; omega
      · show mU M + 5 = _; omega
      · rw [mR_sR, if_neg (fun z => hne z.1)]; exact hR key q i hne
      · rw [mI_sR, mI_sI, if_neg (fun z => hne z.1)]; exact hJ key q i hne
      · by_cases q : e = k
        · subst q
          refine ⟨?_, ?_, ?_⟩
          · rw [mR_sR, if_pos ⟨rfl, rfl, rfl⟩, hS]
          · rw [mK_sR, mK_sI, mK_nw, if_pos hS.symm]
          · rw [mI_sR, mI_sI, if_pos ⟨rfl, hS.symm, rfl⟩]
        · obtain ⟨g1, g2, g3⟩ := hE e (by omega)
          refine ⟨?_, ?_, ?_⟩
          · rw [mR_sR, if_neg (fun z => q z.2.2)]; exact g1
          · rw [mK_sR, mK_sI, mK_nw, if_neg (by omega)]; exact g2
          · rw [mI_sR, mI_sI, if_neg (fun z => by have := z.2.1; omega)]; exact g3
/-- t trays are made -/
def IT (Mb : Mem) (x t : Nat) (M : Mem) : Prop := Fz kti [] ktr Mb M ∧ Cln M ∧ mS M = x + 21 + 2 * t ∧ mU M = mU Mb + 19 * t ∧ (∀ key q i, ¬ key = 7038029 → ¬ key = 900 → mR M key q i = mR Mb key q i) ∧ (∀ key q i, ¬ key = 901 → mI M key q i = mI Mb key q i) ∧ ∀ e, e < t → mR M 7038029 (x + 8) e = some (x + 21 + 2 * e) ∧ mK M (x + 21 + 2 * e) = 10 ∧ mR M 900 (x + 21 + 2 * e) 0 = some (x + 22 + 2 * e) ∧ mK M (x + 22 + 2 * e) = 2050007 ∧ mN M (x + 22 + 2 * e) = 16 ∧ mI M 901 (x + 21 + 2 * e) 0 = -1
theorem IT_s {Mb M : Mem} {x t : Nat} (h7 : mK Mb (x + 8) = 7038029) (hI : IT Mb x t M) : IT Mb x (t + 1) (sR (sI (sR (nw (nw M 10 0 3) 2050007 16 16) 900 (mS M) 0 (some (mS M + 1))) 901 (mS M) 0 (-1)) 7038029 (x + 8) t (some (mS M))) := by
  obtain ⟨F, hc, hS, hU, hR, hJ, hE⟩ := hI
  have k7 := (F.1 (x + 8) (by rw [h7]; decide)).1.trans h7
  have c1 : Cln (nw M 10 0 3) := cl_nw hc
  have c2 : Cln (nw (nw M 10 0 3) 2050007 16 16) := cl_nw c1
  have ka : mK (nw (nw M 10 0 3) 2050007 16 16) (mS M) = 10 := by rw [mK_nw, mS_nw, if_neg (by omega), mK_nw, if_pos rfl]
  have k8 : mK (nw (nw M 10 0 3) 2050007 16 16) (x + 8) = 7038029 := by rw [mK_nw, mS_nw, if_neg (by omega), mK_nw, if_neg (by omega)]; exact k7
  have hcl : Cln (sR (sI (sR (nw (nw M 10 0 3) 2050007 16 16) 900 (mS M) 0 (some (mS M + 1))) 901 (mS M) 0 (-1)) 7038029 (x + 8) t (some (mS M))) := cl_sR (cl_sI (cl_sR c2 (by rw [ka]; decide)) (by rw [mK_sR, ka]; decide)) (by rw [mK_sI, mK_sR, k8]; decide)
  refine ⟨F.tr (((Fz.nw hc).tr (Fz.nw c1)).tr (Fz.of (((Fx.rf.sR (by decide)).sI (by decide)).sR (by decide)))), hcl, ?_, ?_, fun key q i h1 h2 => ?_, fun key q i h1 => ?_, fun e he => ?_⟩
  · show mS M + 1 + 1 = _; omega
  · show mU M + 3 + 16 = _; omega
  · rw [mR_sR, if_neg (fun z => h1 z.1), mR_sI, mR_sR, if_neg (fun z => h2 z.1)]; exact hR key q i h1 h2
  · rw [mI_sR, mI_sI, if_neg (fun z => h1 z.1)]; exact hJ key q i h1
  · by_cases q : e = t
    · subst q
      refine ⟨?_, ?_, ?_, ?_, ?_, ?_⟩
      · rw [mR_sR, if_pos ⟨rfl, rfl, rfl⟩, hS]
      · rw [mK_sR, mK_sI, mK_sR, ← hS]; exact ka
      · rw [mR_sR, if_neg (fun z => absurd z.1 (by decide)), mR_sI, mR_sR, if_pos ⟨rfl, hS.symm, rfl⟩, hS]; exact congrArg some (by omega)
      · rw [mK_sR, mK_sI, mK_sR, mK_nw, mS_nw, if_pos (by omega)]
      · rw [mN_sR, mN_sI, mN_sR, mN_nw, mS_nw, if_pos (by omega)]
      · rw [mI_sR, mI_sI, if_pos ⟨rfl, hS.symm, rfl⟩]
    · obtain ⟨g1, g2, g3, g4, g5, g6⟩ := hE e (by omega)
      refine ⟨?_, ?_, ?_, ?_, ?_, ?_⟩
      · rw [mR_sR, if_neg (fun z => q z.2.2), mR_sI, mR_sR, if_neg (fun z => absurd z.1 (by decide))]; exact g1
      · rw [mK_sR, mK_sI, mK_sR, mK_nw, mS_nw, if_neg (by omega), mK_nw, if_neg (by omega)]; exact g2
      · rw [mR_sR, if_neg (fun z => absurd z.1 (by decide)), mR_sI, mR_sR, if_neg (fun z => by have := z.2.1; omega)]; exact g3
      · rw [mK_sR, mK_sI, mK_sR, mK_nw, mS_nw, if_neg (by omega), mK_nw, if_neg (by omega)]; exact g4
      · rw [mN_sR, mN_sI, mN_sR, mN_nw, mS_nw, if_neg (by omega), mN_nw, if_neg (by omega)]; exact g5
      · rw [mI_sR, mI_sI, if_neg (fun z => by have := z.2.1; omega)]; exact g6
set_option maxRecDepth 20000 in
theorem l_xi {D : DD} {d x : Nat} {M0 Mb : Mem} {Q : Qt} (hk : mK Mb (x + 1) = 9) (hr : mR Mb 802 (x + 1) 0 = some (x + 8)) (h4 : mK Mb (x + 8) = 7038029) (hn : mN Mb (x + 8) = 8) (hq : ∀ M, IT Mb x 8 M → wp D (d + 3) mi_X8_init M0 M 106 [(0, .ref (x + 1)), (1, .int (nI 0))] [] Q) : ∀ (r t : Nat) (M : Mem), t + r = 8 → IT Mb x t M → wp D (d + 3) mi_X8_init M0 M 79 [(0, .ref (x + 1)), (1, .int (nI t))] [] Q := by
  intro r
  induction r with
  | zero =>
    intro t M hr hI
    have e : t = 8 := by omega
    subst e
    refine runL2 79 106 (tbk_X8_init (csj_n (Jok 2 d))) 40 ?_
    simp -implicitDefEqProofs +decide only [go_0, pI_i, pL_i, pA_i, pA_s, pV_i, oI_i, oL_i, oV_i, lk, rm1, rm2, isR_rf, isR_ref, isR_null, rfo_rf, rfo_ref, rfo_null, rf_some, rf_none, rf_eq_null, rf_eq_ref, ↓nl_n, ↓nl_r, nl_rf, cat_i, cat_l, cat_r, cat_n, cat_rf, lv_args, pN_0, pN_s, tr_ic, tr_lc, tr_null, tr_iload, tr_lload, tr_aload, tr_istore, tr_lstore, tr_astore, tr_iinc, tr_iadd, tr_isub, tr_imul, tr_iand, tr_irem, tr_ladd, tr_lsub, tr_land, tr_lor, tr_lshl, tr_ldiv, tr_lrem, tr_i2l, tr_l2i, tr_i2b, tr_lcmp, tr_dup, tr_dup2, tr_pop, tr_goto, tr_ifeq, tr_ifne, tr_iflt, tr_ifge, tr_ifgt, tr_ifle, tr_iceq, tr_icne, tr_iclt, tr_icge, tr_icgt, tr_icle, tr_ifnull, tr_ifnonnull, tr_sw, tr_getI, tr_getL, tr_getR, tr_putI, tr_putZ, tr_putL, tr_putR, tr_iald, tr_lald, tr_bald, tr_aald, tr_alen, tr_iast, tr_bast, tr_last, tr_aast, tr_newa, tr_anew, tr_new, tr_callV, tr_callS, tr_callI, tr_obj, tr_iret, tr_zret, tr_lret, tr_aret, tr_ret, Nat.reduceAdd, Nat.reduceMul, Nat.reduceDiv, Nat.reduceEqDiff, Nat.reduceLT, Nat.reduceLeDiff, ↓reduceIte, true_and, and_true, true_or, or_true, List.length_nil, List.length_cons, List.nil_append, List.cons_append, Option.toList_some, Option.toList_none, and_self, or_false, false_or, false_and, and_false, imp_self, forall_const, Nat.one_ne_zero, Nat.succ_ne_self, not_true_eq_false, not_false_eq_true, reduceCtorEq, Nat.add_eq_right, Nat.add_eq_left, Nat.add_left_cancel_iff, Nat.zero_add, Int32.reduceLT, Int32.reduceLE, Int32.reduceAdd, Int32.reduceSub, Int32.reduceMul, lg_cmp_ge, lg_cmp_le, lg_cmp_gt, lg_cmp_lt, lg_cmp_eq, i10, i01, eq_self, false_implies, true_implies, implies_true, mK_sI, mK_sL, mK_sR, mK_nw, mN_sI, mN_sL, mN_sR, mN_nw, mI_sI, mI_sL, mI_sR, mI_nw, mL_sI, mL_sL, mL_sR, mL_nw, mR_sI, mR_sL, mR_sR, mR_nw, mS_sI, mS_sL, mS_sR, mS_nw, mU_sI, mU_sL, mU_sR, mU_nw, go_2, csj, inl, lgn, lgc, nI_leL (n := 8) (L := 8) rfl (show 8 < 2 ^ 31 by omega) (by decide), Nat.le_refl, a_X8_init_0, a_X8_init_1, a_X8_init_4, a_X8_init_5, a_X8_init_8, a_X8_init_9, a_X8_init_12, a_X8_init_15, a_X8_init_16, a_X8_init_19, a_X8_init_20, a_X8_init_23, a_X8_init_26, a_X8_init_27, a_X8_init_29, a_X8_init_32, a_X8_init_35, a_X8_init_36, a_X8_init_39, a_X8_init_40, a_X8_init_43, a_X8_init_46, a_X8_init_47, a_X8_init_50, a_X8_init_51, a_X8_init_54, a_X8_init_57, a_X8_init_58, a_X8_init_61, a_X8_init_62, a_X8_init_65, a_X8_init_68, a_X8_init_69, a_X8_init_71, a_X8_init_74, a_X8_init_77, a_X8_init_78, a_X8_init_79, a_X8_init_80, a_X8_init_82, a_X8_init_85, a_X8_init_86, a_X8_init_89, a_X8_init_90, a_X8_init_93, a_X8_init_94, a_X8_init_97, a_X8_init_98, a_X8_init_101, a_X8_init_104, a_X8_init_105, a_X8_init_106, a_X8_init_107, a_X8_init_109, a_X8_init_112, a_X8_init_113, a_X8_init_116, a_X8_init_117, a_X8_init_120, a_X8_init_121, a_X8_init_122, a_X8_init_123, a_X8_init_124, a_X8_init_127, a_X8_init_128, a_X8_init_131, a_X8_init_134]
    refine wp_sub ?_ (hq M hI)
    intro q hq
    simp only [List.mem_cons, List.not_mem_nil, or_false] at hq ⊢
    rcases hq with rfl | rfl <;> simp [nI_0]
  | succ r ih =>
    intro t M htr hI
    have hI' := hI
    obtain ⟨F, hc, hS, hU, hR, hJ, hE⟩ := hI
    have k1 := F.1 (x + 1) (by rw [hk]; decide)
    have k2 := F.1 (x + 8) (by rw [h4]; decide)
    have c1 : mK M (x + 1) = 9 := k1.1.trans hk
    have c2 : mK M (x + 8) = 7038029 := k2.1.trans h4
    have c3 : mN M (x + 8) = 8 := k2.2.trans hn
    have c4 : mR M 802 (x + 1) 0 = some (x + 8) := (hR _ _ _ (by decide) (by decide)).trans hr
    refine runL2 79 106 (tbk_X8_init (csj_n (Jok 2 d))) 60 ?_
    simp -implicitDefEqProofs +decide only [go_0, pI_i, pL_i, pA_i, pA_s, pV_i, oI_i, oL_i, oV_i, lk, rm1, rm2, isR_rf, isR_ref, isR_null, rfo_rf, rfo_ref, rfo_null, rf_some, rf_none, rf_eq_null, rf_eq_ref, ↓nl_n, ↓nl_r, nl_rf, cat_i, cat_l, cat_r, cat_n, cat_rf, lv_args, pN_0, pN_s, tr_ic, tr_lc, tr_null, tr_iload, tr_lload, tr_aload, tr_istore, tr_lstore, tr_astore, tr_iinc, tr_iadd, tr_isub, tr_imul, tr_iand, tr_irem, tr_ladd, tr_lsub, tr_land, tr_lor, tr_lshl, tr_ldiv, tr_lrem, tr_i2l, tr_l2i, tr_i2b, tr_lcmp, tr_dup, tr_dup2, tr_pop, tr_goto, tr_ifeq, tr_ifne, tr_iflt, tr_ifge, tr_ifgt, tr_ifle, tr_iceq, tr_icne, tr_iclt, tr_icge, tr_icgt, tr_icle, tr_ifnull, tr_ifnonnull, tr_sw, tr_getI, tr_getL, tr_getR, tr_putI, tr_putZ, tr_putL, tr_putR, tr_iald, tr_lald, tr_bald, tr_aald, tr_alen, tr_iast, tr_bast, tr_last, tr_aast, tr_newa, tr_anew, tr_new, tr_callV, tr_callS, tr_callI, tr_obj, tr_iret, tr_zret, tr_lret, tr_aret, tr_ret, Nat.reduceAdd, Nat.reduceMul, Nat.reduceDiv, Nat.reduceEqDiff, Nat.reduceLT, Nat.reduceLeDiff, ↓reduceIte, true_and, and_true, true_or, or_true, List.length_nil, List.length_cons, List.nil_append, List.cons_append, Option.toList_some, Option.toList_none, and_self, or_false, false_or, false_and, and_false, imp_self, forall_const, Nat.one_ne_zero, Nat.succ_ne_self, not_true_eq_false, not_false_eq_true, reduceCtorEq, Nat.add_eq_right, Nat.add_eq_left, Nat.add_left_cancel_iff, Nat.zero_add, Int32.reduceLT, Int32.reduceLE, Int32.reduceAdd, Int32.reduceSub, Int32.reduceMul, lg_cmp_ge, lg_cmp_le, lg_cmp_gt, lg_cmp_lt, lg_cmp_eq, i10, i01, eq_self, false_implies, true_implies, implies_true, mK_sI, mK_sL, mK_sR, mK_nw, mN_sI, mN_sL, mN_sR, mN_nw, mI_sI, mI_sL, mI_sR, mI_nw, mL_sI, mL_sL, mL_sR, mL_nw, mR_sI, mR_sL, mR_sR, mR_nw, mS_sI, mS_sL, mS_sR, mS_nw, mU_sI, mU_sL, mU_sR, mU_nw, go_2, csj, inl, lgn, lgc, J_X9_init, a_X9_init_0, a_X9_init_1, a_X9_init_4, a_X9_init_5, a_X9_init_7, a_X9_init_9, a_X9_init_12, a_X9_init_13, a_X9_init_14, a_X9_init_17, c1, c2, c3, c4, nI_leL (n := 8) (L := 8) rfl (show t < 2 ^ 31 by omega) (by decide), show ¬ 8 ≤ t by omega, show ¬ x + 1 = mS M by omega, show ¬ x + 1 = mS M + 1 by omega, show ¬ x + 8 = mS M by omega, show ¬ x + 8 = mS M + 1 by omega, show ¬ mS M = mS M + 1 by omega, nI_clamp (show t < 2 ^ 31 by omega), vp_in_nI (show t < 8 by omega) (by decide), ← nI_succ, a_X8_init_0, a_X8_init_1, a_X8_init_4, a_X8_init_5, a_X8_init_8, a_X8_init_9, a_X8_init_12, a_X8_init_15, a_X8_init_16, a_X8_init_19, a_X8_init_20, a_X8_init_23, a_X8_init_26, a_X8_init_27, a_X8_init_29, a_X8_init_32, a_X8_init_35, a_X8_init_36, a_X8_init_39, a_X8_init_40, a_X8_init_43, a_X8_init_46, a_X8_init_47, a_X8_init_50, a_X8_init_51, a_X8_init_54, a_X8_init_57, a_X8_init_58, a_X8_init_61, a_X8_init_62, a_X8_init_65, a_X8_init_68, a_X8_init_69, a_X8_init_71, a_X8_init_74, a_X8_init_77, a_X8_init_78, a_X8_init_79, a_X8_init_80, a_X8_init_82, a_X8_init_85, a_X8_init_86, a_X8_init_89, a_X8_init_90, a_X8_init_93, a_X8_init_94, a_X8_init_97, a_X8_init_98, a_X8_init_101, a_X8_init_104, a_X8_init_105, a_X8_init_106, a_X8_init_107, a_X8_init_109, a_X8_init_112, a_X8_init_113, a_X8_init_116, a_X8_init_117, a_X8_init_120, a_X8_init_121, a_X8_init_122, a_X8_init_123, a_X8_init_124, a_X8_init_127, a_X8_init_128, a_X8_init_131, a_X8_init_134]
    refine ⟨fun b hb => ?_, ?_⟩
    · cases hb
      first | rfl | (rw [if_neg (by omega), if_pos rfl]; rfl) | (rw [if_pos rfl]; rfl)
    · refine wp_sub ?_ (ih (t + 1) (sR (sI (sR (nw (nw M 10 0 3) 2050007 16 16) 900 (mS M) 0 (some (mS M + 1))) 901 (mS M) 0 (-1)) 7038029 (x + 8) t (some (mS M))) (by omega) (IT_s h4 hI'))
      intro q hq
      simp only [List.mem_cons, List.not_mem_nil, or_false] at hq ⊢
      rcases hq with rfl | rfl <;> simp
