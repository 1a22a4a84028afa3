/-! The class is made, from its first cell on -/
def tini (M : Mem) (x : Nat) : Mem := (sR (nw (sR (sR (nw (sR (nw (nw (sR (sI (sR (nw (sR (nw (sR (nw (sR (nw (nw (sR (sR (nw (sR (nw (nw (sR (nw (sR (sR (nw (sR (nw (sR (nw (nw (sR (sR (nw (nw M 5 0 2) 5022007 40 40) 400 (x + 2) 0 (some (x + 3))) 800 (x + 1) 0 (some (x + 2))) 3 0 7) 6006008 200 200) 200 (x + 4) 0 (some (x + 5))) 6006016 3 3) 201 (x + 4) 0 (some (x + 6))) 3006025 30 30) 202 (x + 4) 0 (some (x + 7))) 801 (x + 1) 0 (some (x + 4))) 7038029 8 8) 802 (x + 1) 0 (some (x + 8))) 1 0 4) 5000007 50 50) 0 (x + 9) 0 (some (x + 10))) 2000016 50 50) 1 (x + 9) 0 (some (x + 11))) 803 (x + 1) 0 (some (x + 9))) 8 0 12) 2032007 100 100) 700 (x + 12) 0 (some (x + 13))) 1032015 35 35) 701 (x + 12) 0 (some (x + 14))) 1032023 35 35) 702 (x + 12) 0 (some (x + 15))) 1032031 35 35) 703 (x + 12) 0 (some (x + 16))) 710 (x + 12) 0 (-4)) 804 (x + 1) 0 (some (x + 12))) 11 0 4) 5056007 40 40) 1000 (x + 17) 0 (some (x + 18))) 2056016 40 40) 1001 (x + 17) 0 (some (x + 19))) 805 (x + 1) 0 (some (x + 17))) 4038071 12 12) 806 (x + 1) 0 (some (x + 20)))
def xfin (M : Mem) (x : Nat) : Mem := (sR (sR (sR (sR (sR (sR M 1100 x 0 (some (x + 1))) 1101 x 0 (some (x + 2))) 1102 x 0 (some (x + 4))) 1103 x 0 (some (x + 8))) 1104 x 0 (some (x + 9))) 1105 x 0 (some (x + 12)))
def O11 : List (Nat × Nat × Nat) := [(1, 9, 0), (0, 12, 0)]
def O12 : List (Nat × Nat × Nat) := [(20, 4038071, 12), (19, 2056016, 40), (18, 5056007, 40), (17, 11, 0), (16, 1032031, 35), (15, 1032023, 35), (14, 1032015, 35), (13, 2032007, 100), (12, 8, 0), (11, 2000016, 50), (10, 5000007, 50), (9, 1, 0), (8, 7038029, 8), (7, 3006025, 30), (6, 6006016, 3), (5, 6006008, 200), (4, 3, 0), (3, 5022007, 40), (2, 5, 0), (1, 9, 0), (0, 12, 0)]
def R12 : List (Nat × Nat × Nat) := [(806, 1, 20), (805, 1, 17), (1001, 17, 19), (1000, 17, 18), (804, 1, 12), (703, 12, 16), (702, 12, 15), (701, 12, 14), (700, 12, 13), (803, 1, 9), (1, 9, 11), (0, 9, 10), (802, 1, 8), (801, 1, 4), (202, 4, 7), (201, 4, 6), (200, 4, 5), (800, 1, 2), (400, 2, 3)]
theorem tini_at {Mb M : Mem} {x : Nat} (h : At Mb x kti ktr 2 7 O11 [] M) : At Mb x kti ktr 21 714 O12 R12 (tini M x) := by
  have a0 := h.nw (c := 5) (n := 0) (w := 2)
  have a1 := a0.nw (c := 5022007) (n := 40) (w := 40)
  have a2 := a1.sR (key := 400) (o := 2) (t := 3) (by decide) (by decide) (by decide)
  have a3 := a2.sR (key := 800) (o := 1) (t := 2) (by decide) (by decide) (by decide)
  have a4 := a3.nw (c := 3) (n := 0) (w := 7)
  have a5 := a4.nw (c := 6006008) (n := 200) (w := 200)
  have a6 := a5.sR (key := 200) (o := 4) (t := 5) (by decide) (by decide) (by decide)
  have a7 := a6.nw (c := 6006016) (n := 3) (w := 3)
  have a8 := a7.sR (key := 201) (o := 4) (t := 6) (by decide) (by decide) (by decide)
  have a9 := a8.nw (c := 3006025) (n := 30) (w := 30)
  have a10 := a9.sR (key := 202) (o := 4) (t := 7) (by decide) (by decide) (by decide)
  have a11 := a10.sR (key := 801) (o := 1) (t := 4) (by decide) (by decide) (by decide)
  have a12 := a11.nw (c := 7038029) (n := 8) (w := 8)
  have a13 := a12.sR (key := 802) (o := 1) (t := 8) (by decide) (by decide) (by decide)
  have a14 := a13.nw (c := 1) (n := 0) (w := 4)
  have a15 := a14.nw (c := 5000007) (n := 50) (w := 50)
  have a16 := a15.sR (key := 0) (o := 9) (t := 10) (by decide) (by decide) (by decide)
  have a17 := a16.nw (c := 2000016) (n := 50) (w := 50)
  have a18 := a17.sR (key := 1) (o := 9) (t := 11) (by decide) (by decide) (by decide)
  have a19 := a18.sR (key := 803) (o := 1) (t := 9) (by decide) (by decide) (by decide)
  have a20 := a19.nw (c := 8) (n := 0) (w := 12)
  have a21 := a20.nw (c := 2032007) (n := 100) (w := 100)
  have a22 := a21.sR (key := 700) (o := 12) (t := 13) (by decide) (by decide) (by decide)
  have a23 := a22.nw (c := 1032015) (n := 35) (w := 35)
  have a24 := a23.sR (key := 701) (o := 12) (t := 14) (by decide) (by decide) (by decide)
  have a25 := a24.nw (c := 1032023) (n := 35) (w := 35)
  have a26 := a25.sR (key := 702) (o := 12) (t := 15) (by decide) (by decide) (by decide)
  have a27 := a26.nw (c := 1032031) (n := 35) (w := 35)
  have a28 := a27.sR (key := 703) (o := 12) (t := 16) (by decide) (by decide) (by decide)
  have a29 := a28.sI (key := 710) (o := 12) (i := 0) (v := -4) (by decide) (by decide)
  have a30 := a29.sR (key := 804) (o := 1) (t := 12) (by decide) (by decide) (by decide)
  have a31 := a30.nw (c := 11) (n := 0) (w := 4)
  have a32 := a31.nw (c := 5056007) (n := 40) (w := 40)
  have a33 := a32.sR (key := 1000) (o := 17) (t := 18) (by decide) (by decide) (by decide)
  have a34 := a33.nw (c := 2056016) (n := 40) (w := 40)
  have a35 := a34.sR (key := 1001) (o := 17) (t := 19) (by decide) (by decide) (by decide)
  have a36 := a35.sR (key := 805) (o := 1) (t := 17) (by decide) (by decide) (by decide)
  have a37 := a36.nw (c := 4038071) (n := 12) (w := 12)
  have a38 := a37.sR (key := 806) (o := 1) (t := 20) (by decide) (by decide) (by decide)
  exact a38
def U11 : Nat := 926

/-- the class as it is made -/
def P11 (M : Mem) (x : Nat) (M' : Mem) : Prop := SH M' x ∧ Fz kti [] ktr M M' ∧ Cln M' ∧ mS M' = x + 49 ∧ mU M' = mU M + U11 ∧ (mI M' 710 (x + 12) 0) = -4 ∧ ∀ t, t < 8 → (mI M' 901 (x + 21 + 2 * t) 0) = -1
set_option maxRecDepth 20000 in
theorem c_tini {D : DD} {d x : Nat} {Mb M : Mem} {Q : Qt} (A1 : At Mb x kti ktr 2 7 O11 [] M) (hq : ∀ M2 M3, IT (tini M x) x 8 M2 → IC M2 x 12 M3 → Q M3 none) : Call D (d + 3) mi_X8_init [.ref (x + 1)] M Q := by
  have A2 := tini_at A1
  have o2 := A2.2.2.2.2.1
  have r2 := A2.2.2.2.2.2
  have hk : mK M (x + 1) = 9 := (A1.2.2.2.2.1 (1, 9, 0) (by decide)).2.1
  have hs : mS M = x + 2 := A1.1
  have hs2 : mS (tini M x) = x + 21 := A2.1
  have h1 := o2 (1, 9, 0) (by decide)
  have h8 := o2 (8, 7038029, 8) (by decide)
  have h20 := o2 (20, 4038071, 12) (by decide)
  have hI0 : IT (tini M x) x 0 (tini M x) := ⟨Fz.rf, A2.2.2.2.1, by omega, rfl, fun _ _ _ _ _ => rfl, fun _ _ _ _ => rfl, fun e he => absurd he (by omega)⟩
  have cuesL : ∀ M2, IT (tini M x) x 8 M2 → wp D (d + 3) mi_X8_init M M2 106 [(0, .ref (x + 1)), (1, .int (nI 0))] [] Q := by
    intro M2 hI
    have hI' := hI
    obtain ⟨F1, c1, s1, u1, rr1, ii1, e1⟩ := hI
    have k1 := F1.1 (x + 1) (by rw [h1.2.1]; decide)
    have k20 := F1.1 (x + 20) (by rw [h20.2.1]; decide)
    exact l_ti (D := D) (d := d) (x := x) (M0 := M) (Mb := M2) (k1.1.trans h1.2.1) ((rr1 _ _ _ (by decide) (by decide)).trans (r2 (806, 1, 20) (by decide))) (k20.1.trans h20.2.1) (k20.2.trans h20.2.2) (fun M3 h3 => hq M2 M3 hI' h3) 12 0 M2 (by omega) ⟨Fz.rf, c1, by omega, rfl, fun _ _ _ _ => rfl, fun _ _ _ _ => rfl, fun e he => absurd he (by omega)⟩
  have l1 := l_xi (D := D) (d := d) (x := x) (M0 := M) (Mb := tini M x) h1.2.1 (r2 (802, 1, 8) (by decide)) h8.2.1 h8.2.2 cuesL 8 0 (tini M x) (by omega) hI0
  refine call_of (by decide) (Nat.le_of_ble_eq_true rfl) ?_
  refine runL 79 (tbk_X8_init (csj_n (Jok 2 d))) 90 ?_
  simp -implicitDefEqProofs +decide only [go_0, pI_i, pL_i, pA_i, pA_s, pV_i, oI_i, oL_i, oV_i, lk, rm1, rm2, isR_rf, isR_ref, isR_null, rfo_rf, rfo_ref, rfo_null, rf_some, rf_none, rf_eq_null, rf_eq_ref, ↓nl_n, ↓nl_r, nl_rf, cat_i, cat_l, cat_r, cat_n, cat_rf, lv_args, pN_0, pN_s, tr_ic, tr_lc, tr_null, tr_iload, tr_lload, tr_aload, tr_istore, tr_lstore, tr_astore, tr_iinc, tr_iadd, tr_isub, tr_imul, tr_iand, tr_irem, tr_ladd, tr_lsub, tr_land, tr_lor, tr_lshl, tr_ldiv, tr_lrem, tr_i2l, tr_l2i, tr_i2b, tr_lcmp, tr_dup, tr_dup2, tr_pop, tr_goto, tr_ifeq, tr_ifne, tr_iflt, tr_ifge, tr_ifgt, tr_ifle, tr_iceq, tr_icne, tr_iclt, tr_icge, tr_icgt, tr_icle, tr_ifnull, tr_ifnonnull, tr_sw, tr_getI, tr_getL, tr_getR, tr_putI, tr_putZ, tr_putL, tr_putR, tr_iald, tr_lald, tr_bald, tr_aald, tr_alen, tr_iast, tr_bast, tr_last, tr_aast, tr_newa, tr_anew, tr_new, tr_callV, tr_callS, tr_callI, tr_obj, tr_iret, tr_zret, tr_lret, tr_aret, tr_ret, Nat.reduceAdd, Nat.reduceMul, Nat.reduceDiv, Nat.reduceEqDiff, Nat.reduceLT, Nat.reduceLeDiff, ↓reduceIte, true_and, and_true, true_or, or_true, List.length_nil, List.length_cons, List.nil_append, List.cons_append, Option.toList_some, Option.toList_none, and_self, or_false, false_or, false_and, and_false, imp_self, forall_const, Nat.one_ne_zero, Nat.succ_ne_self, not_true_eq_false, not_false_eq_true, reduceCtorEq, Nat.add_eq_right, Nat.add_eq_left, Nat.add_left_cancel_iff, Nat.zero_add, Int32.reduceLT, Int32.reduceLE, Int32.reduceAdd, Int32.reduceSub, Int32.reduceMul, lg_cmp_ge, lg_cmp_le, lg_cmp_gt, lg_cmp_lt, lg_cmp_eq, i10, i01, eq_self, false_implies, true_implies, implies_true, mK_sI, mK_sL, mK_sR, mK_nw, mN_sI, mN_sL, mN_sR, mN_nw, mI_sI, mI_sL, mI_sR, mI_nw, mL_sI, mL_sL, mL_sR, mL_nw, mR_sI, mR_sL, mR_sR, mR_nw, mS_sI, mS_sL, mS_sR, mS_nw, mU_sI, mU_sL, mU_sR, mU_nw, go_1, csj, inl, lgn, lgc, J_X4_init, J_X2_init, J_X0_init, J_X7_init, J_X10_init, a_X4_init_0, a_X4_init_1, a_X4_init_4, a_X4_init_5, a_X4_init_7, a_X4_init_10, a_X4_init_13, a_X2_init_0, a_X2_init_1, a_X2_init_4, a_X2_init_5, a_X2_init_8, a_X2_init_11, a_X2_init_14, a_X2_init_15, a_X2_init_16, a_X2_init_19, a_X2_init_22, a_X2_init_23, a_X2_init_25, a_X2_init_27, a_X2_init_30, a_X0_init_0, a_X0_init_1, a_X0_init_4, a_X0_init_5, a_X0_init_7, a_X0_init_10, a_X0_init_13, a_X0_init_14, a_X0_init_16, a_X0_init_18, a_X0_init_21, a_X7_init_0, a_X7_init_1, a_X7_init_4, a_X7_init_5, a_X7_init_7, a_X7_init_9, a_X7_init_12, a_X7_init_13, a_X7_init_15, a_X7_init_17, a_X7_init_20, a_X7_init_21, a_X7_init_23, a_X7_init_25, a_X7_init_28, a_X7_init_29, a_X7_init_31, a_X7_init_33, a_X7_init_36, a_X7_init_37, a_X7_init_39, a_X7_init_42, a_X10_init_0, a_X10_init_1, a_X10_init_4, a_X10_init_5, a_X10_init_7, a_X10_init_10, a_X10_init_13, a_X10_init_14, a_X10_init_16, a_X10_init_18, a_X10_init_21, hk, hs, Nat.add_assoc, show ¬ x = x + 1 by omega, show ¬ x = x + 2 by omega, show ¬ x = x + 3 by omega, show ¬ x = x + 4 by omega, show ¬ x = x + 5 by omega, show ¬ x = x + 6 by omega, show ¬ x = x + 7 by omega, show ¬ x = x + 8 by omega, show ¬ x = x + 9 by omega, show ¬ x = x + 10 by omega, show ¬ x = x + 11 by omega, show ¬ x = x + 12 by omega, show ¬ x = x + 13 by omega, show ¬ x = x + 14 by omega, show ¬ x = x + 15 by omega, show ¬ x = x + 16 by omega, show ¬ x = x + 17 by omega, show ¬ x = x + 18 by omega, show ¬ x = x + 19 by omega, show ¬ x = x + 20 by omega, a_X8_init_0, a_X8_init_1, a_X8_init_4, a_X8_init_5, a_X8_init_8, a_X8_init_9, a_X8_init_12, a_X8_init_15, a_X8_init_16, a_X8_init_19, a_X8_init_20, a_X8_init_23, a_X8_init_26, a_X8_init_27, a_X8_init_29, a_X8_init_32, a_X8_init_35, a_X8_init_36, a_X8_init_39, a_X8_init_40, a_X8_init_43, a_X8_init_46, a_X8_init_47, a_X8_init_50, a_X8_init_51, a_X8_init_54, a_X8_init_57, a_X8_init_58, a_X8_init_61, a_X8_init_62, a_X8_init_65, a_X8_init_68, a_X8_init_69, a_X8_init_71, a_X8_init_74, a_X8_init_77, a_X8_init_78, a_X8_init_79, a_X8_init_80, a_X8_init_82, a_X8_init_85, a_X8_init_86, a_X8_init_89, a_X8_init_90, a_X8_init_93, a_X8_init_94, a_X8_init_97, a_X8_init_98, a_X8_init_101, a_X8_init_104, a_X8_init_105, a_X8_init_106, a_X8_init_107, a_X8_init_109, a_X8_init_112, a_X8_init_113, a_X8_init_116, a_X8_init_117, a_X8_init_120, a_X8_init_121, a_X8_init_122, a_X8_init_123, a_X8_init_124, a_X8_init_127, a_X8_init_128, a_X8_init_131, a_X8_init_134]
  refine wp_sub ?_ l1
  intro q hq
  simp only [List.mem_cons, List.not_mem_nil, or_false] at hq ⊢
  rcases hq with rfl | rfl <;> simp [nI_0]
theorem xf_n {M : Mem} {x key q i : Nat} (h : key < 1100 ∨ 1106 ≤ key) : mR (xfin M x) key q i = mR M key q i := by
  unfold xfin
  rw [mR_sR, if_neg (fun z => by have := z.1; omega), mR_sR, if_neg (fun z => by have := z.1; omega), mR_sR, if_neg (fun z => by have := z.1; omega), mR_sR, if_neg (fun z => by have := z.1; omega), mR_sR, if_neg (fun z => by have := z.1; omega), mR_sR, if_neg (fun z => by have := z.1; omega)]
theorem xf_d {M : Mem} {x : Nat} : ∀ q ∈ [(1100, 0, 1), (1101, 0, 2), (1102, 0, 4), (1103, 0, 8), (1104, 0, 9), (1105, 0, 12)], mR (xfin M x) q.1 (x + q.2.1) 0 = some (x + q.2.2) := by
  simp only [List.forall_mem_cons]
  unfold xfin
  refine ⟨?_, ?_, ?_, ?_, ?_, ?_, fun _ h => absurd h List.not_mem_nil⟩ <;> simp only [mR_sR, Nat.add_zero, Nat.reduceEqDiff, false_and, if_false, and_self, if_true]
set_option maxRecDepth 20000 in
theorem c_xini {D : DD} {d x : Nat} {M : Mem} {Q : Qt} (hk : mK M x = 12) (hn : mN M x = 0) (hs : mS M = x + 1) (hc : Cln M) (hq : ∀ M', P11 M x M' → Q M' none) : Call D (d + 4) mi_X11_init [.ref x] M Q := by
  have A0 : At M x kti ktr 1 0 [(0, 12, 0)] [] M := ⟨hs, rfl, Fz.rf, hc, fun q hq => by rcases List.mem_singleton.mp hq with rfl; exact ⟨by decide, hk, hn⟩, fun q hq => absurd hq List.not_mem_nil⟩
  have A1 : At M x kti ktr 2 7 O11 [] (nw M 9 0 7) := A0.nw (c := 9) (n := 0) (w := 7)
  have A2 := tini_at A1
  have o2 := A2.2.2.2.2.1
  have r2 := A2.2.2.2.2.2
  have fin : ∀ M2 M3, IT (tini (nw M 9 0 7) x) x 8 M2 → IC M2 x 12 M3 → P11 M x (xfin M3 x) ∧ mK M3 x = 12 ∧ mK M3 (x + 1) = 9 ∧ ∀ q ∈ R12, ¬ q.1 = 4038071 → ¬ q.1 = 7038029 → ¬ q.1 = 900 → mR M3 q.1 (x + q.2.1) 0 = some (x + q.2.2) := by
    intro M2 M3 hJ hI
    obtain ⟨F2, c2, s2, u2, rr2, ii2, e2⟩ := hJ
    obtain ⟨F1, c1, s1, u1, rr1, ii1, e1⟩ := hI
    have F3 : Fz kti [] ktr (tini (nw M 9 0 7) x) M3 := F2.tr F1
    have hz : ∀ q ∈ O12, q.2.1 ≠ 0 := by decide
    have kO : ∀ q ∈ O12, mK M3 (x + q.1) = q.2.1 ∧ mN M3 (x + q.1) = q.2.2 := fun q hq' => by
      have := o2 q hq'
      have h4 := F3.1 (x + q.1) (by rw [this.2.1]; exact hz q hq')
      exact ⟨h4.1.trans this.2.1, h4.2.trans this.2.2⟩
    have kx : mK M3 x = 12 := (kO (0, 12, 0) (by decide)).1
    have FE : Fx kti [] ktr M3 (xfin M3 x) := (((((Fx.rf.sR (by decide)).sR (by decide)).sR (by decide)).sR (by decide)).sR (by decide)).sR (by decide)
    have rO : ∀ q ∈ R12, ¬ q.1 = 4038071 → ¬ q.1 = 7038029 → ¬ q.1 = 900 → mR M3 q.1 (x + q.2.1) 0 = some (x + q.2.2) := fun q hq h1 h2 h3 => by
      rw [rr1 _ _ _ h1, rr2 _ _ _ h2 h3]; exact r2 q hq
    have hcl : Cln (xfin M3 x) := cl_sR (cl_sR (cl_sR (cl_sR (cl_sR (cl_sR c1 (by rw [kx]; decide)) (by simp only [mK_sR, kx]; decide)) (by simp only [mK_sR, kx]; decide)) (by simp only [mK_sR, kx]; decide)) (by simp only [mK_sR, kx]; decide)) (by simp only [mK_sR, kx]; decide)
    refine ⟨⟨⟨kx, fun q hq => ?_, fun q hq => ?_, fun t ht => ?_, fun e he => ?_⟩, A2.2.2.1.tr (F3.tr (Fz.of FE)), hcl, ?_, ?_, ?_, fun t ht => ?_⟩, kx, (kO (1, 9, 0) (by decide)).1, rO⟩
    · exact kO q ((by decide : ∀ q ∈ shO, q ∈ O12) q hq)
    · rcases (by decide : ∀ q ∈ shR, q ∈ [(1100, 0, 1), (1101, 0, 2), (1102, 0, 4), (1103, 0, 8), (1104, 0, 9), (1105, 0, 12)] ∨ (q ∈ R12 ∧ (q.1 < 1100 ∨ 1106 ≤ q.1) ∧ ¬ q.1 = 4038071 ∧ ¬ q.1 = 7038029 ∧ ¬ q.1 = 900)) q hq with h5 | ⟨h5, h6, h7, h8, h9⟩
      · exact xf_d q h5
      · rw [xf_n h6]; exact rO q h5 h7 h8 h9
    · obtain ⟨g1, g2, g3, g4, g5, g6⟩ := e2 t ht
      have f1 := F1.1 (x + 21 + 2 * t) (by rw [g2]; decide)
      have f2 := F1.1 (x + 22 + 2 * t) (by rw [g4]; decide)
      refine ⟨?_, f1.1.trans g2, ?_, f2.1.trans g4, f2.2.trans g5⟩
      · rw [xf_n (by decide), rr1 _ _ _ (by decide)]; exact g1
      · rw [xf_n (by decide), rr1 _ _ _ (by decide)]; exact g3
    · obtain ⟨g1, g2, g3⟩ := e1 e he
      exact ⟨by rw [xf_n (by decide)]; exact g1, g2, g3⟩
    · show mS M3 = _; omega
    · have a1 := A2.2.1
      show mU M3 = _
      rw [u1, u2, a1]; unfold U11; omega
    · show mI M3 _ _ _ = _
      rw [ii1 _ _ _ (by decide), ii2 _ _ _ (by decide)]
      unfold tini
      simp only [mK_sI, mK_sL, mK_sR, mK_nw, mN_sI, mN_sL, mN_sR, mN_nw, mI_sI, mI_sL, mI_sR, mI_nw, mL_sI, mL_sL, mL_sR, mL_nw, mR_sI, mR_sL, mR_sR, mR_nw, mS_sI, mS_sL, mS_sR, mS_nw, mU_sI, mU_sL, mU_sR, mU_nw, Nat.reduceEqDiff, false_and, if_false, and_self, if_true]
    · show mI M3 _ _ _ = _
      rw [ii1 _ _ _ (by decide)]; exact (e2 t ht).2.2.2.2.2
  refine call_of (by decide) (Nat.le_of_ble_eq_true rfl) (run0 (tbk_X11_init (csj_c (s := Call D (d + 3) mi_X8_init) mn_X8_init (fun _ _ _ h => h) (csj_n (Jok 3 d)))) 60 ?_)
  simp -implicitDefEqProofs +decide only [go_0, pI_i, pL_i, pA_i, pA_s, pV_i, oI_i, oL_i, oV_i, lk, rm1, rm2, isR_rf, isR_ref, isR_null, rfo_rf, rfo_ref, rfo_null, rf_some, rf_none, rf_eq_null, rf_eq_ref, ↓nl_n, ↓nl_r, nl_rf, cat_i, cat_l, cat_r, cat_n, cat_rf, lv_args, pN_0, pN_s, tr_ic, tr_lc, tr_null, tr_iload, tr_lload, tr_aload, tr_istore, tr_lstore, tr_astore, tr_iinc, tr_iadd, tr_isub, tr_imul, tr_iand, tr_irem, tr_ladd, tr_lsub, tr_land, tr_lor, tr_lshl, tr_ldiv, tr_lrem, tr_i2l, tr_l2i, tr_i2b, tr_lcmp, tr_dup, tr_dup2, tr_pop, tr_goto, tr_ifeq, tr_ifne, tr_iflt, tr_ifge, tr_ifgt, tr_ifle, tr_iceq, tr_icne, tr_iclt, tr_icge, tr_icgt, tr_icle, tr_ifnull, tr_ifnonnull, tr_sw, tr_getI, tr_getL, tr_getR, tr_putI, tr_putZ, tr_putL, tr_putR, tr_iald, tr_lald, tr_bald, tr_aald, tr_alen, tr_iast, tr_bast, tr_last, tr_aast, tr_newa, tr_anew, tr_new, tr_callV, tr_callS, tr_callI, tr_obj, tr_iret, tr_zret, tr_lret, tr_aret, tr_ret, Nat.reduceAdd, Nat.reduceMul, Nat.reduceDiv, Nat.reduceEqDiff, Nat.reduceLT, Nat.reduceLeDiff, ↓reduceIte, true_and, and_true, true_or, or_true, List.length_nil, List.length_cons, List.nil_append, List.cons_append, Option.toList_some, Option.toList_none, and_self, or_false, false_or, false_and, and_false, imp_self, forall_const, Nat.one_ne_zero, Nat.succ_ne_self, not_true_eq_false, not_false_eq_true, reduceCtorEq, Nat.add_eq_right, Nat.add_eq_left, Nat.add_left_cancel_iff, Nat.zero_add, Int32.reduceLT, Int32.reduceLE, Int32.reduceAdd, Int32.reduceSub, Int32.reduceMul, lg_cmp_ge, lg_cmp_le, lg_cmp_gt, lg_cmp_lt, lg_cmp_eq, i10, i01, eq_self, false_implies, true_implies, implies_true, mK_sI, mK_sL, mK_sR, mK_nw, mN_sI, mN_sL, mN_sR, mN_nw, mI_sI, mI_sL, mI_sR, mI_nw, mL_sI, mL_sL, mL_sR, mL_nw, mR_sI, mR_sL, mR_sR, mR_nw, mS_sI, mS_sL, mS_sR, mS_nw, mU_sI, mU_sL, mU_sR, mU_nw, csj, inl, lgn, lgc, hk, hs, a_X11_init_0, a_X11_init_1, a_X11_init_4, a_X11_init_5, a_X11_init_8, a_X11_init_9, a_X11_init_12, a_X11_init_15, a_X11_init_16, a_X11_init_17, a_X11_init_20, a_X11_init_23, a_X11_init_26, a_X11_init_27, a_X11_init_28, a_X11_init_31, a_X11_init_34, a_X11_init_37, a_X11_init_38, a_X11_init_39, a_X11_init_42, a_X11_init_45, a_X11_init_48, a_X11_init_49, a_X11_init_50, a_X11_init_53, a_X11_init_56, a_X11_init_59, a_X11_init_60, a_X11_init_61, a_X11_init_64, a_X11_init_67, a_X11_init_70]
  refine c_tini A1 (fun M2 M3 h2 h3 => ?_)
  obtain ⟨hP, kx, kt, rO⟩ := fin M2 M3 h2 h3
  have r0 : mR M3 800 (x + 1) 0 = some (x + 2) := rO (800, 1, 2) (by decide) (by decide) (by decide) (by decide)
  have r1 : mR M3 801 (x + 1) 0 = some (x + 4) := rO (801, 1, 4) (by decide) (by decide) (by decide) (by decide)
  have r3 : mR M3 802 (x + 1) 0 = some (x + 8) := rO (802, 1, 8) (by decide) (by decide) (by decide) (by decide)
  have r4 : mR M3 803 (x + 1) 0 = some (x + 9) := rO (803, 1, 9) (by decide) (by decide) (by decide) (by decide)
  have r5 : mR M3 804 (x + 1) 0 = some (x + 12) := rO (804, 1, 12) (by decide) (by decide) (by decide) (by decide)
  simp -implicitDefEqProofs +decide only [go_0, pI_i, pL_i, pA_i, pA_s, pV_i, oI_i, oL_i, oV_i, lk, rm1, rm2, isR_rf, isR_ref, isR_null, rfo_rf, rfo_ref, rfo_null, rf_some, rf_none, rf_eq_null, rf_eq_ref, ↓nl_n, ↓nl_r, nl_rf, cat_i, cat_l, cat_r, cat_n, cat_rf, lv_args, pN_0, pN_s, tr_ic, tr_lc, tr_null, tr_iload, tr_lload, tr_aload, tr_istore, tr_lstore, tr_astore, tr_iinc, tr_iadd, tr_isub, tr_imul, tr_iand, tr_irem, tr_ladd, tr_lsub, tr_land, tr_lor, tr_lshl, tr_ldiv, tr_lrem, tr_i2l, tr_l2i, tr_i2b, tr_lcmp, tr_dup, tr_dup2, tr_pop, tr_goto, tr_ifeq, tr_ifne, tr_iflt, tr_ifge, tr_ifgt, tr_ifle, tr_iceq, tr_icne, tr_iclt, tr_icge, tr_icgt, tr_icle, tr_ifnull, tr_ifnonnull, tr_sw, tr_getI, tr_getL, tr_getR, tr_putI, tr_putZ, tr_putL, tr_putR, tr_iald, tr_lald, tr_bald, tr_aald, tr_alen, tr_iast, tr_bast, tr_last, tr_aast, tr_newa, tr_anew, tr_new, tr_callV, tr_callS, tr_callI, tr_obj, tr_iret, tr_zret, tr_lret, tr_aret, tr_ret, Nat.reduceAdd, Nat.reduceMul, Nat.reduceDiv, Nat.reduceEqDiff, Nat.reduceLT, Nat.reduceLeDiff, ↓reduceIte, true_and, and_true, true_or, or_true, List.length_nil, List.length_cons, List.nil_append, List.cons_append, Option.toList_some, Option.toList_none, and_self, or_false, false_or, false_and, and_false, imp_self, forall_const, Nat.one_ne_zero, Nat.succ_ne_self, not_true_eq_false, not_false_eq_true, reduceCtorEq, Nat.add_eq_right, Nat.add_eq_left, Nat.add_left_cancel_iff, Nat.zero_add, Int32.reduceLT, Int32.reduceLE, Int32.reduceAdd, Int32.reduceSub, Int32.reduceMul, lg_cmp_ge, lg_cmp_le, lg_cmp_gt, lg_cmp_lt, lg_cmp_eq, i10, i01, eq_self, false_implies, true_implies, implies_true, mK_sI, mK_sL, mK_sR, mK_nw, mN_sI, mN_sL, mN_sR, mN_nw, mI_sI, mI_sL, mI_sR, mI_nw, mL_sI, mL_sL, mL_sR, mL_nw, mR_sI, mR_sL, mR_sR, mR_nw, mS_sI, mS_sL, mS_sR, mS_nw, mU_sI, mU_sL, mU_sR, mU_nw, csj, inl, lgn, lgc, kx, kt, r0, r1, r3, r4, r5, a_X11_init_0, a_X11_init_1, a_X11_init_4, a_X11_init_5, a_X11_init_8, a_X11_init_9, a_X11_init_12, a_X11_init_15, a_X11_init_16, a_X11_init_17, a_X11_init_20, a_X11_init_23, a_X11_init_26, a_X11_init_27, a_X11_init_28, a_X11_init_31, a_X11_init_34, a_X11_init_37, a_X11_init_38, a_X11_init_39, a_X11_init_42, a_X11_init_45, a_X11_init_48, a_X11_init_49, a_X11_init_50, a_X11_init_53, a_X11_init_56, a_X11_init_59, a_X11_init_60, a_X11_init_61, a_X11_init_64, a_X11_init_67, a_X11_init_70]
  exact hq _ hP
