/-! The class is made, from its first cell on -/
def xini (M : Mem) (x : Nat) : Mem := (nw (sR (sI (sR (nw (sR (nw (sR (nw (sR (nw (nw (sR (sR (nw (sR (nw (nw (sR (nw (sR (sR (nw (sR (nw (sR (nw (nw (sR (sR (nw (nw M 5 0 2) 5023007 40 40) 400 (x + 1) 0 (some (x + 2))) 1100 x 0 (some (x + 1))) 3 0 7) 6006008 200 200) 200 (x + 3) 0 (some (x + 4))) 6006016 3 3) 201 (x + 3) 0 (some (x + 5))) 3006025 30 30) 202 (x + 3) 0 (some (x + 6))) 1101 x 0 (some (x + 3))) 7068029 8 8) 1102 x 0 (some (x + 7))) 1 0 4) 5000007 50 50) 0 (x + 8) 0 (some (x + 9))) 2000016 50 50) 1 (x + 8) 0 (some (x + 10))) 1103 x 0 (some (x + 8))) 8 0 12) 2034007 100 100) 700 (x + 11) 0 (some (x + 12))) 1034015 35 35) 701 (x + 11) 0 (some (x + 13))) 1034023 35 35) 702 (x + 11) 0 (some (x + 14))) 1034031 35 35) 703 (x + 11) 0 (some (x + 15))) 710 (x + 11) 0 (-4)) 1104 x 0 (some (x + 11))) 9 0 7)
def O11 : List (Nat × Nat × Nat) := [(16, 9, 0), (15, 1034031, 35), (14, 1034023, 35), (13, 1034015, 35), (12, 2034007, 100), (11, 8, 0), (10, 2000016, 50), (9, 5000007, 50), (8, 1, 0), (7, 7068029, 8), (6, 3006025, 30), (5, 6006016, 3), (4, 6006008, 200), (3, 3, 0), (2, 5023007, 40), (1, 5, 0), (0, 12, 0)]
def R11 : List (Nat × Nat × Nat) := [(1104, 0, 11), (703, 11, 15), (702, 11, 14), (701, 11, 13), (700, 11, 12), (1103, 0, 8), (1, 8, 10), (0, 8, 9), (1102, 0, 7), (1101, 0, 3), (202, 3, 6), (201, 3, 5), (200, 3, 4), (1100, 0, 1), (400, 1, 2)]
def O12 : List (Nat × Nat × Nat) := [(20, 4040018, 12), (19, 2061016, 40), (18, 5061007, 40), (17, 11, 0), (16, 9, 0), (15, 1034031, 35), (14, 1034023, 35), (13, 1034015, 35), (12, 2034007, 100), (11, 8, 0), (10, 2000016, 50), (9, 5000007, 50), (8, 1, 0), (7, 7068029, 8), (6, 3006025, 30), (5, 6006016, 3), (4, 6006008, 200), (3, 3, 0), (2, 5023007, 40), (1, 5, 0), (0, 12, 0)]
def R12 : List (Nat × Nat × Nat) := [(804, 16, 11), (803, 16, 8), (802, 16, 7), (801, 16, 3), (800, 16, 1), (806, 16, 20), (805, 16, 17), (1001, 17, 19), (1000, 17, 18), (1104, 0, 11), (703, 11, 15), (702, 11, 14), (701, 11, 13), (700, 11, 12), (1103, 0, 8), (1, 8, 10), (0, 8, 9), (1102, 0, 7), (1101, 0, 3), (202, 3, 6), (201, 3, 5), (200, 3, 4), (1100, 0, 1), (400, 1, 2)]
theorem xini_at {M : Mem} {x : Nat} (h : At M x kti ktr 1 0 [(0, 12, 0)] [] M) : At M x kti ktr 17 618 O11 R11 (xini M x) := by
  have a0 := h.nw (c := 5) (n := 0) (w := 2)
  have a1 := a0.nw (c := 5023007) (n := 40) (w := 40)
  have a2 := a1.sR (key := 400) (o := 1) (t := 2) (by decide) (by decide) (by decide)
  have a3 := a2.sR (key := 1100) (o := 0) (t := 1) (by decide) (by decide) (by decide)
  have a4 := a3.nw (c := 3) (n := 0) (w := 7)
  have a5 := a4.nw (c := 6006008) (n := 200) (w := 200)
  have a6 := a5.sR (key := 200) (o := 3) (t := 4) (by decide) (by decide) (by decide)
  have a7 := a6.nw (c := 6006016) (n := 3) (w := 3)
  have a8 := a7.sR (key := 201) (o := 3) (t := 5) (by decide) (by decide) (by decide)
  have a9 := a8.nw (c := 3006025) (n := 30) (w := 30)
  have a10 := a9.sR (key := 202) (o := 3) (t := 6) (by decide) (by decide) (by decide)
  have a11 := a10.sR (key := 1101) (o := 0) (t := 3) (by decide) (by decide) (by decide)
  have a12 := a11.nw (c := 7068029) (n := 8) (w := 8)
  have a13 := a12.sR (key := 1102) (o := 0) (t := 7) (by decide) (by decide) (by decide)
  have a14 := a13.nw (c := 1) (n := 0) (w := 4)
  have a15 := a14.nw (c := 5000007) (n := 50) (w := 50)
  have a16 := a15.sR (key := 0) (o := 8) (t := 9) (by decide) (by decide) (by decide)
  have a17 := a16.nw (c := 2000016) (n := 50) (w := 50)
  have a18 := a17.sR (key := 1) (o := 8) (t := 10) (by decide) (by decide) (by decide)
  have a19 := a18.sR (key := 1103) (o := 0) (t := 8) (by decide) (by decide) (by decide)
  have a20 := a19.nw (c := 8) (n := 0) (w := 12)
  have a21 := a20.nw (c := 2034007) (n := 100) (w := 100)
  have a22 := a21.sR (key := 700) (o := 11) (t := 12) (by decide) (by decide) (by decide)
  have a23 := a22.nw (c := 1034015) (n := 35) (w := 35)
  have a24 := a23.sR (key := 701) (o := 11) (t := 13) (by decide) (by decide) (by decide)
  have a25 := a24.nw (c := 1034023) (n := 35) (w := 35)
  have a26 := a25.sR (key := 702) (o := 11) (t := 14) (by decide) (by decide) (by decide)
  have a27 := a26.nw (c := 1034031) (n := 35) (w := 35)
  have a28 := a27.sR (key := 703) (o := 11) (t := 15) (by decide) (by decide) (by decide)
  have a29 := a28.sI (key := 710) (o := 11) (i := 0) (v := -4) (by decide) (by decide)
  have a30 := a29.sR (key := 1104) (o := 0) (t := 11) (by decide) (by decide) (by decide)
  have a31 := a30.nw (c := 9) (n := 0) (w := 7)
  exact a31
theorem tini_at {Mb M : Mem} {x : Nat} (h : At Mb x kti ktr 17 618 O11 R11 M) : At Mb x kti ktr 21 714 O12 R12 (tini M (x + 16) (x + 1) (x + 3) (x + 7) (x + 8) (x + 11)) := by
  have a0 := h.nw (c := 11) (n := 0) (w := 4)
  have a1 := a0.nw (c := 5061007) (n := 40) (w := 40)
  have a2 := a1.sR (key := 1000) (o := 17) (t := 18) (by decide) (by decide) (by decide)
  have a3 := a2.nw (c := 2061016) (n := 40) (w := 40)
  have a4 := a3.sR (key := 1001) (o := 17) (t := 19) (by decide) (by decide) (by decide)
  have a5 := a4.sR (key := 805) (o := 16) (t := 17) (by decide) (by decide) (by decide)
  have a6 := a5.nw (c := 4040018) (n := 12) (w := 12)
  have a7 := a6.sR (key := 806) (o := 16) (t := 20) (by decide) (by decide) (by decide)
  have a8 := a7.sR (key := 800) (o := 16) (t := 1) (by decide) (by decide) (by decide)
  have a9 := a8.sR (key := 801) (o := 16) (t := 3) (by decide) (by decide) (by decide)
  have a10 := a9.sR (key := 802) (o := 16) (t := 7) (by decide) (by decide) (by decide)
  have a11 := a10.sR (key := 803) (o := 16) (t := 8) (by decide) (by decide) (by decide)
  have a12 := a11.sR (key := 804) (o := 16) (t := 11) (by decide) (by decide) (by decide)
  exact a12
def U11 : Nat := 938

/-- the class as it is made -/
def P11 (M : Mem) (x : Nat) (M' : Mem) : Prop := SH M' x ∧ Fz kti [] ktr M M' ∧ Cln M' ∧ mS M' = x + 49 ∧ mU M' = mU M + U11 ∧ (mI M' 710 (x + 11) 0) = -4 ∧ ∀ t, t < 8 → (mI M' 901 (x + 33 + 2 * t) 0) = -1
set_option maxRecDepth 20000 in
theorem c_xini {D : DD} {d x : Nat} {M : Mem} {Q : Qt} (hk : mK M x = 12) (hn : mN M x = 0) (hs : mS M = x + 1) (hc : Cln M) (hq : ∀ M', P11 M x M' → Q M' none) : Call D (d + 4) mi_X11_init [.ref x] M Q := by
  have A0 : At M x kti ktr 1 0 [(0, 12, 0)] [] M := ⟨hs, rfl, Fz.rf, hc, fun q hq => by rcases List.mem_singleton.mp hq with rfl; exact ⟨by decide, hk, hn⟩, fun q hq => absurd hq List.not_mem_nil⟩
  have A1 := xini_at A0
  have A2 := tini_at A1
  have o1 := A1.2.2.2.2.1
  have o2 := A2.2.2.2.2.1
  have r2 := A2.2.2.2.2.2
  have fin : ∀ M1, IC (tini (xini M x) (x + 16) (x + 1) (x + 3) (x + 7) (x + 8) (x + 11)) (x + 16) 12 M1 → ∀ M3, IT (sR M1 1105 x 0 (some (x + 16))) x 8 M3 → P11 M x M3 := by
    intro M1 hI M3 hJ
    obtain ⟨F1, c1, s1, u1, rr1, ii1, e1⟩ := hI
    obtain ⟨F2, c2, s2, u2, rr2, ii2, e2⟩ := hJ
    have F12 : Fz kti [] ktr (tini (xini M x) (x + 16) (x + 1) (x + 3) (x + 7) (x + 8) (x + 11)) M3 := (F1.tr (Fz.of (Fx.rf.sR (by decide)))).tr F2
    have hz : ∀ q ∈ O12, q.2.1 ≠ 0 := by decide
    refine ⟨⟨?_, fun q hq => ?_, fun q hq => ?_, fun t ht => ?_, fun e he => ?_⟩, A2.2.2.1.tr F12, c2, by omega, ?_, ?_, fun t ht => (e2 t ht).2.2.2.2.2⟩
    · have := o2 (0, 12, 0) (by decide)
      exact ((F12.1 _ (by rw [this.2.1]; decide)).1).trans this.2.1
    · have hq' : q ∈ O12 := (by decide : ∀ q ∈ shO, q ∈ O12) q hq
      have := o2 q hq'
      have h4 := F12.1 (x + q.1) (by rw [this.2.1]; exact hz q hq')
      exact ⟨h4.1.trans this.2.1, h4.2.trans this.2.2⟩
    · have hk3 : ¬ q.1 = 7068029 ∧ ¬ q.1 = 900 ∧ ¬ q.1 = 4040018 := (by decide : ∀ q ∈ shR, ¬ q.1 = 7068029 ∧ ¬ q.1 = 900 ∧ ¬ q.1 = 4040018) q hq
      rw [rr2 _ _ _ hk3.1 hk3.2.1, mR_sR]
      rcases (by decide : ∀ q ∈ shR, q = (1105, 0, 16) ∨ (q ∈ R12 ∧ ¬ q.1 = 1105)) q hq with rfl | ⟨h5, h6⟩
      · rw [if_pos ⟨rfl, rfl, rfl⟩]
      · rw [if_neg (fun z => h6 z.1), rr1 _ _ _ hk3.2.2]
        exact r2 q h5
    · obtain ⟨g1, g2, g3, g4, g5, g6⟩ := e2 t ht
      exact ⟨g1, g2, g3, g4, g5⟩
    · obtain ⟨g1, g2, g3⟩ := e1 e he
      rw [show x + 16 + 5 + e = x + 21 + e by omega] at g1 g2 g3
      refine ⟨?_, ?_, ?_⟩
      · rw [rr2 _ _ _ (by decide) (by decide), mR_sR, if_neg (fun z => absurd z.1 (by decide))]; exact g1
      · rw [(F2.1 _ (by rw [mK_sR, g2]; decide)).1]; exact g2
      · rw [ii2 _ _ _ (by decide)]; exact g3
    · have a1 := A2.2.1
      rw [u2, mU_sR, u1, a1]; unfold U11; omega
    · rw [ii2 _ _ _ (by decide), mI_sR, ii1 _ _ _ (by decide)]
      unfold tini wini xini
      simp only [mK_sI, mK_sL, mK_sR, mK_nw, mN_sI, mN_sL, mN_sR, mN_nw, mI_sI, mI_sL, mI_sR, mI_nw, mL_sI, mL_sL, mL_sR, mL_nw, mR_sI, mR_sL, mR_sR, mR_nw, mS_sI, mS_sL, mS_sR, mS_nw, mU_sI, mU_sL, mU_sR, mU_nw, Nat.reduceEqDiff, false_and, if_false, and_self, if_true]
  refine call_of (by decide) (Nat.le_of_ble_eq_true rfl) ?_
  refine runL 90 (tbk_X11_init (csj_c (s := Call D (d + 3) mi_X8_init) mn_X8_init (fun _ _ _ h => h) (csj_n (Jok 3 d)))) 120 ?_
  simp -implicitDefEqProofs +decide only [go_0, pI_i, pL_i, pA_i, pA_s, pV_i, oI_i, oL_i, oV_i, lk, rm1, rm2, isR_rf, isR_ref, isR_null, rfo_rf, rfo_ref, rfo_null, rf_some, rf_none, rf_eq_null, rf_eq_ref, ↓nl_n, ↓nl_r, nl_rf, cat_i, cat_l, cat_r, cat_n, cat_rf, lv_args, pN_0, pN_s, tr_ic, tr_lc, tr_null, tr_iload, tr_lload, tr_aload, tr_istore, tr_lstore, tr_astore, tr_iinc, tr_iadd, tr_isub, tr_imul, tr_iand, tr_irem, tr_ladd, tr_lsub, tr_land, tr_lor, tr_lshl, tr_ldiv, tr_lrem, tr_i2l, tr_l2i, tr_i2b, tr_lcmp, tr_dup, tr_dup2, tr_pop, tr_goto, tr_ifeq, tr_ifne, tr_iflt, tr_ifge, tr_ifgt, tr_ifle, tr_iceq, tr_icne, tr_iclt, tr_icge, tr_icgt, tr_icle, tr_ifnull, tr_ifnonnull, tr_sw, tr_getI, tr_getL, tr_getR, tr_putI, tr_putZ, tr_putL, tr_putR, tr_iald, tr_lald, tr_bald, tr_aald, tr_alen, tr_iast, tr_bast, tr_last, tr_aast, tr_newa, tr_anew, tr_new, tr_callV, tr_callS, tr_callI, tr_obj, tr_iret, tr_zret, tr_lret, tr_aret, tr_ret, Nat.reduceAdd, Nat.reduceMul, Nat.reduceDiv, Nat.reduceEqDiff, Nat.reduceLT, Nat.reduceLeDiff, ↓reduceIte, true_and, and_true, true_or, or_true, List.length_nil, List.length_cons, List.nil_append, List.cons_append, Option.toList_some, Option.toList_none, and_self, or_false, false_or, false_and, and_false, imp_self, forall_const, Nat.one_ne_zero, Nat.succ_ne_self, not_true_eq_false, not_false_eq_true, reduceCtorEq, Nat.add_eq_right, Nat.add_eq_left, Nat.add_left_cancel_iff, Nat.zero_add, Int32.reduceLT, Int32.reduceLE, Int32.reduceAdd, Int32.reduceSub, Int32.reduceMul, lg_cmp_ge, lg_cmp_le, lg_cmp_gt, lg_cmp_lt, lg_cmp_eq, i10, i01, eq_self, false_implies, true_implies, implies_true, mK_sI, mK_sL, mK_sR, mK_nw, mN_sI, mN_sL, mN_sR, mN_nw, mI_sI, mI_sL, mI_sR, mI_nw, mL_sI, mL_sL, mL_sR, mL_nw, mR_sI, mR_sL, mR_sR, mR_nw, mS_sI, mS_sL, mS_sR, mS_nw, mU_sI, mU_sL, mU_sR, mU_nw, go_1, csj, inl, lgn, lgc, J_X4_init, J_X2_init, J_X0_init, J_X7_init, a_X4_init_0, a_X4_init_1, a_X4_init_4, a_X4_init_5, a_X4_init_7, a_X4_init_10, a_X4_init_13, a_X2_init_0, a_X2_init_1, a_X2_init_4, a_X2_init_5, a_X2_init_8, a_X2_init_11, a_X2_init_14, a_X2_init_15, a_X2_init_16, a_X2_init_19, a_X2_init_22, a_X2_init_23, a_X2_init_25, a_X2_init_27, a_X2_init_30, a_X0_init_0, a_X0_init_1, a_X0_init_4, a_X0_init_5, a_X0_init_7, a_X0_init_10, a_X0_init_13, a_X0_init_14, a_X0_init_16, a_X0_init_18, a_X0_init_21, a_X7_init_0, a_X7_init_1, a_X7_init_4, a_X7_init_5, a_X7_init_7, a_X7_init_9, a_X7_init_12, a_X7_init_13, a_X7_init_15, a_X7_init_17, a_X7_init_20, a_X7_init_21, a_X7_init_23, a_X7_init_25, a_X7_init_28, a_X7_init_29, a_X7_init_31, a_X7_init_33, a_X7_init_36, a_X7_init_37, a_X7_init_39, a_X7_init_42, hk, hs, Nat.add_assoc, show ¬ x = x + 1 by omega, show ¬ x = x + 2 by omega, show ¬ x = x + 3 by omega, show ¬ x = x + 4 by omega, show ¬ x = x + 5 by omega, show ¬ x = x + 6 by omega, show ¬ x = x + 7 by omega, show ¬ x = x + 8 by omega, show ¬ x = x + 9 by omega, show ¬ x = x + 10 by omega, show ¬ x = x + 11 by omega, show ¬ x = x + 12 by omega, show ¬ x = x + 13 by omega, show ¬ x = x + 14 by omega, show ¬ x = x + 15 by omega, show ¬ x = x + 16 by omega, show ¬ x = x + 17 by omega, a_X11_init_0, a_X11_init_1, a_X11_init_4, a_X11_init_5, a_X11_init_8, a_X11_init_9, a_X11_init_12, a_X11_init_15, a_X11_init_16, a_X11_init_19, a_X11_init_20, a_X11_init_23, a_X11_init_26, a_X11_init_27, a_X11_init_29, a_X11_init_32, a_X11_init_35, a_X11_init_36, a_X11_init_39, a_X11_init_40, a_X11_init_43, a_X11_init_46, a_X11_init_47, a_X11_init_50, a_X11_init_51, a_X11_init_54, a_X11_init_57, a_X11_init_58, a_X11_init_61, a_X11_init_62, a_X11_init_63, a_X11_init_66, a_X11_init_67, a_X11_init_70, a_X11_init_71, a_X11_init_74, a_X11_init_75, a_X11_init_78, a_X11_init_79, a_X11_init_82, a_X11_init_85, a_X11_init_88, a_X11_init_89, a_X11_init_90, a_X11_init_91, a_X11_init_93, a_X11_init_96, a_X11_init_97, a_X11_init_100, a_X11_init_101, a_X11_init_104, a_X11_init_105, a_X11_init_108, a_X11_init_109, a_X11_init_112, a_X11_init_115]
  have kk := fun o c n (h : (o, c, n) ∈ O11) => (o1 (o, c, n) h).2.1
  refine c_tini (M := xini M x) (a := x + 16) (k1 := x + 1) (k2 := x + 3) (k3 := x + 7) (k4 := x + 8) (k5 := x + 11) (kk 16 9 0 (by decide)) A1.1 A1.2.2.2.1 ⟨Fz.rf, A2.2.2.2.1, A2.1, rfl, fun _ _ _ _ => rfl, fun _ _ _ _ => rfl, fun e he => absurd he (by omega)⟩ (r2 (806, 16, 20) (by decide)) (o2 (16, 9, 0) (by decide)).2.1 (o2 (20, 4040018, 12) (by decide)).2.1 (o2 (20, 4040018, 12) (by decide)).2.2 (kk 1 5 0 (by decide)) (kk 3 3 0 (by decide)) (kk 7 7068029 8 (by decide)) (kk 8 1 0 (by decide)) (kk 11 8 0 (by decide)) (fun M1 hI => ?_)
  have hI' := hI
  obtain ⟨F1, c1, s1, u1, rr1, ii1, e1⟩ := hI
  have kx : mK M1 x = 12 := ((F1.1 x (by have := (o2 (0, 12, 0) (by decide)).2.1; rw [show x + 0 = x from rfl] at this; rw [this]; decide)).1).trans (o2 (0, 12, 0) (by decide)).2.1
  have h7 := o2 (7, 7068029, 8) (by decide)
  have k7 := F1.1 (x + 7) (by rw [h7.2.1]; decide)
  have r7 : mR M1 1102 x 0 = some (x + 7) := (rr1 _ _ _ (by decide)).trans (r2 (1102, 0, 7) (by decide))
  simp -implicitDefEqProofs +decide only [go_0, pI_i, pL_i, pA_i, pA_s, pV_i, oI_i, oL_i, oV_i, lk, rm1, rm2, isR_rf, isR_ref, isR_null, rfo_rf, rfo_ref, rfo_null, rf_some, rf_none, rf_eq_null, rf_eq_ref, ↓nl_n, ↓nl_r, nl_rf, cat_i, cat_l, cat_r, cat_n, cat_rf, lv_args, pN_0, pN_s, tr_ic, tr_lc, tr_null, tr_iload, tr_lload, tr_aload, tr_istore, tr_lstore, tr_astore, tr_iinc, tr_iadd, tr_isub, tr_imul, tr_iand, tr_irem, tr_ladd, tr_lsub, tr_land, tr_lor, tr_lshl, tr_ldiv, tr_lrem, tr_i2l, tr_l2i, tr_i2b, tr_lcmp, tr_dup, tr_dup2, tr_pop, tr_goto, tr_ifeq, tr_ifne, tr_iflt, tr_ifge, tr_ifgt, tr_ifle, tr_iceq, tr_icne, tr_iclt, tr_icge, tr_icgt, tr_icle, tr_ifnull, tr_ifnonnull, tr_sw, tr_getI, tr_getL, tr_getR, tr_putI, tr_putZ, tr_putL, tr_putR, tr_iald, tr_lald, tr_bald, tr_aald, tr_alen, tr_iast, tr_bast, tr_last, tr_aast, tr_newa, tr_anew, tr_new, tr_callV, tr_callS, tr_callI, tr_obj, tr_iret, tr_zret, tr_lret, tr_aret, tr_ret, Nat.reduceAdd, Nat.reduceMul, Nat.reduceDiv, Nat.reduceEqDiff, Nat.reduceLT, Nat.reduceLeDiff, ↓reduceIte, true_and, and_true, true_or, or_true, List.length_nil, List.length_cons, List.nil_append, List.cons_append, Option.toList_some, Option.toList_none, and_self, or_false, false_or, false_and, and_false, imp_self, forall_const, Nat.one_ne_zero, Nat.succ_ne_self, not_true_eq_false, not_false_eq_true, reduceCtorEq, Nat.add_eq_right, Nat.add_eq_left, Nat.add_left_cancel_iff, Nat.zero_add, Int32.reduceLT, Int32.reduceLE, Int32.reduceAdd, Int32.reduceSub, Int32.reduceMul, lg_cmp_ge, lg_cmp_le, lg_cmp_gt, lg_cmp_lt, lg_cmp_eq, i10, i01, eq_self, false_implies, true_implies, implies_true, mK_sI, mK_sL, mK_sR, mK_nw, mN_sI, mN_sL, mN_sR, mN_nw, mI_sI, mI_sL, mI_sR, mI_nw, mL_sI, mL_sL, mL_sR, mL_nw, mR_sI, mR_sL, mR_sR, mR_nw, mS_sI, mS_sL, mS_sR, mS_nw, mU_sI, mU_sL, mU_sR, mU_nw, go_1, kx, a_X11_init_0, a_X11_init_1, a_X11_init_4, a_X11_init_5, a_X11_init_8, a_X11_init_9, a_X11_init_12, a_X11_init_15, a_X11_init_16, a_X11_init_19, a_X11_init_20, a_X11_init_23, a_X11_init_26, a_X11_init_27, a_X11_init_29, a_X11_init_32, a_X11_init_35, a_X11_init_36, a_X11_init_39, a_X11_init_40, a_X11_init_43, a_X11_init_46, a_X11_init_47, a_X11_init_50, a_X11_init_51, a_X11_init_54, a_X11_init_57, a_X11_init_58, a_X11_init_61, a_X11_init_62, a_X11_init_63, a_X11_init_66, a_X11_init_67, a_X11_init_70, a_X11_init_71, a_X11_init_74, a_X11_init_75, a_X11_init_78, a_X11_init_79, a_X11_init_82, a_X11_init_85, a_X11_init_88, a_X11_init_89, a_X11_init_90, a_X11_init_91, a_X11_init_93, a_X11_init_96, a_X11_init_97, a_X11_init_100, a_X11_init_101, a_X11_init_104, a_X11_init_105, a_X11_init_108, a_X11_init_109, a_X11_init_112, a_X11_init_115]
  refine wp_sub ?_ (l_xi (D := D) (d := d) (M0 := M) (Mb := sR M1 1105 x 0 (some (x + 16))) (csj_n (Jok 3 d)) rfl kx (by rw [mR_sR, if_neg (fun z => absurd z.1 (by decide))]; exact r7) (k7.1.trans h7.2.1) (k7.2.trans h7.2.2) (fun M3 h3 => hq M3 (fin M1 hI' M3 h3)) 8 0 _ (by omega) ⟨Fz.rf, cl_sR c1 (by rw [kx]; decide), by show mS M1 = _; omega, rfl, fun _ _ _ _ _ => rfl, fun _ _ _ _ => rfl, fun e he => absurd he (by omega)⟩)
  intro q hq
  simp only [List.mem_cons, List.not_mem_nil, or_false] at hq ⊢
  rcases hq with rfl | rfl <;> simp [nI_0]
