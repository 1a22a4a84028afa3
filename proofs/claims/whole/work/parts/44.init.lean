/-! A listener is made -/
def pinit (M : Mem) (b : Nat) : Mem := sR (nw (sR (nw (nw M 7 0 3) 1029007 10 10) 600 b 0 (some (b + 1))) 1029015 10 10) 601 b 0 (some (b + 2))
def linit (M : Mem) (a : Nat) (n : Int32) (kd : Nat) (p r s : Int32) : Mem := sI (sI (sI (sR (sI (sI (sL (sL (sR (pinit M (a + 1)) 505 a 0 (some (a + 1))) 506 a 0 (-9223372036854775808)) 507 a 0 9223372036854775807) 509 a 0 1) 500 a 0 n) 501 a 0 (some kd)) 502 a 0 p) 503 a 0 r) 504 a 0 s
theorem nn1 (a : Nat) : ¬ a = a + 1 := by omega
theorem nn2 (a : Nat) : ¬ a = a + 1 + 1 := by omega
theorem nn3 (a : Nat) : ¬ a = a + 1 + 1 + 1 := by omega
theorem nn2' (a : Nat) : ¬ a = a + 2 := by omega
theorem nn3' (a : Nat) : ¬ a = a + 3 := by omega
def sp_linit : Sp := fun av M Q => match av with
  | [.ref a, .int n, .ref kd, .int p, .int r, .int s] => mK M a = 6 ∧ mS M = a + 1 ∧ Q (linit M a n kd p r s) none
  | _ => False
set_option maxRecDepth 20000 in
theorem c_linit {D : DD} {d : Nat} : ∀ av M Q, sp_linit av M Q → Call D (d + 3) mi_X5_init av M Q := by
  intro av M Q hz
  match av, hz with
  | [.ref a, .int n, .ref kd, .int p, .int r, .int s], hz =>
    obtain ⟨hk, hs, hq⟩ := hz
    refine call_of (by decide) (Nat.le_of_ble_eq_true rfl) (run0 (tbk_X5_init (csj_n (Jok 2 d))) 90 ?_)
    simp -implicitDefEqProofs +decide only [go_0, pI_i, pL_i, pA_i, pA_s, pV_i, oI_i, oL_i, oV_i, lk, rm1, rm2, isR_rf, isR_ref, isR_null, rfo_rf, rfo_ref, rfo_null, rf_some, rf_none, rf_eq_null, rf_eq_ref, ↓nl_n, ↓nl_r, nl_rf, cat_i, cat_l, cat_r, cat_n, cat_rf, lv_args, pN_0, pN_s, tr_ic, tr_lc, tr_null, tr_iload, tr_lload, tr_aload, tr_istore, tr_lstore, tr_astore, tr_iinc, tr_iadd, tr_isub, tr_imul, tr_iand, tr_irem, tr_ladd, tr_lsub, tr_land, tr_lor, tr_lshl, tr_ldiv, tr_lrem, tr_i2l, tr_l2i, tr_i2b, tr_lcmp, tr_dup, tr_dup2, tr_pop, tr_goto, tr_ifeq, tr_ifne, tr_iflt, tr_ifge, tr_ifgt, tr_ifle, tr_iceq, tr_icne, tr_iclt, tr_icge, tr_icgt, tr_icle, tr_ifnull, tr_ifnonnull, tr_sw, tr_getI, tr_getL, tr_getR, tr_putI, tr_putZ, tr_putL, tr_putR, tr_iald, tr_lald, tr_bald, tr_aald, tr_alen, tr_iast, tr_bast, tr_last, tr_aast, tr_newa, tr_anew, tr_new, tr_callV, tr_callS, tr_callI, tr_obj, tr_iret, tr_zret, tr_lret, tr_aret, tr_ret, Nat.reduceAdd, Nat.reduceMul, Nat.reduceDiv, Nat.reduceEqDiff, Nat.reduceLT, Nat.reduceLeDiff, ↓reduceIte, true_and, and_true, true_or, or_true, List.length_nil, List.length_cons, List.nil_append, List.cons_append, Option.toList_some, Option.toList_none, and_self, or_false, false_or, false_and, and_false, imp_self, forall_const, Nat.one_ne_zero, Nat.succ_ne_self, not_true_eq_false, not_false_eq_true, reduceCtorEq, Nat.add_eq_right, Nat.add_eq_left, Nat.add_left_cancel_iff, Nat.zero_add, Int32.reduceLT, Int32.reduceLE, Int32.reduceAdd, Int32.reduceSub, Int32.reduceMul, lg_cmp_ge, lg_cmp_le, lg_cmp_gt, lg_cmp_lt, lg_cmp_eq, i10, i01, eq_self, false_implies, true_implies, implies_true, mK_sI, mK_sL, mK_sR, mK_nw, mN_sI, mN_sL, mN_sR, mN_nw, mI_sI, mI_sL, mI_sR, mI_nw, mL_sI, mL_sL, mL_sR, mL_nw, mR_sI, mR_sL, mR_sR, mR_nw, mS_sI, mS_sL, mS_sR, mS_nw, mU_sI, mU_sL, mU_sR, mU_nw, csj, inl, lgn, lgc, J_X6_init, a_X6_init_0, a_X6_init_1, a_X6_init_4, a_X6_init_5, a_X6_init_7, a_X6_init_9, a_X6_init_12, a_X6_init_13, a_X6_init_15, a_X6_init_17, a_X6_init_20, hk, hs, nn1, nn2, nn3, nn2', nn3', a_X5_init_0, a_X5_init_1, a_X5_init_4, a_X5_init_5, a_X5_init_8, a_X5_init_9, a_X5_init_12, a_X5_init_15, a_X5_init_16, a_X5_init_19, a_X5_init_22, a_X5_init_23, a_X5_init_26, a_X5_init_29, a_X5_init_30, a_X5_init_31, a_X5_init_34, a_X5_init_35, a_X5_init_36, a_X5_init_39, a_X5_init_40, a_X5_init_41, a_X5_init_44, a_X5_init_45, a_X5_init_46, a_X5_init_49, a_X5_init_50, a_X5_init_52, a_X5_init_55, a_X5_init_56, a_X5_init_58, a_X5_init_61]
    exact hq
theorem linit_cl {M : Mem} {a kd : Nat} {n p r s : Int32} (hc : Cln M) (hk : mK M a = 6) (hs : mS M = a + 1) : Cln (linit M a n kd p r s) ∧ Fz [509, 500, 502, 503, 504] [506, 507] [600, 601, 505, 501] M (linit M a n kd p r s) := by
  unfold linit pinit
  have c1 : Cln (nw M 7 0 3) := cl_nw hc
  have c2 : Cln (nw (nw M 7 0 3) 1029007 10 10) := cl_nw c1
  have k1 : mK (nw (nw M 7 0 3) 1029007 10 10) (a + 1) = 7 := by
    rw [mK_nw, mS_nw, hs, if_neg (by omega), mK_nw, hs, if_pos rfl]
  have ka : mK (nw (nw M 7 0 3) 1029007 10 10) a = 6 := by
    rw [mK_nw, mS_nw, hs, if_neg (by omega), mK_nw, hs, if_neg (by omega)]; exact hk
  have c3 : Cln (sR (nw (nw M 7 0 3) 1029007 10 10) 600 (a + 1) 0 (some (a + 1 + 1))) := cl_sR c2 (by rw [k1]; decide)
  have c4 : Cln (nw (sR (nw (nw M 7 0 3) 1029007 10 10) 600 (a + 1) 0 (some (a + 1 + 1))) 1029015 10 10) := cl_nw c3
  have s3 : mS (sR (nw (nw M 7 0 3) 1029007 10 10) 600 (a + 1) 0 (some (a + 1 + 1))) = a + 3 := by rw [mS_sR, mS_nw, mS_nw, hs]
  have kb : mK (nw (sR (nw (nw M 7 0 3) 1029007 10 10) 600 (a + 1) 0 (some (a + 1 + 1))) 1029015 10 10) (a + 1) = 7 := by rw [mK_nw, s3, if_neg (by omega)]; exact k1
  have kc' : mK (nw (sR (nw (nw M 7 0 3) 1029007 10 10) 600 (a + 1) 0 (some (a + 1 + 1))) 1029015 10 10) a = 6 := by rw [mK_nw, s3, if_neg (by omega)]; exact ka
  constructor
  · refine cl_sI (cl_sI (cl_sI (cl_sR (cl_sI (cl_sI (cl_sL (cl_sL (cl_sR (cl_sR c4 ?_) ?_) ?_) ?_) ?_) ?_) ?_) ?_) ?_) ?_
    · rw [kb]; decide
    all_goals (simp only [mK_sI, mK_sL, mK_sR]; rw [kc']; decide)
  · have f1 := (Fz.nw (ki := [509, 500, 502, 503, 504]) (kl := [506, 507]) (kr := [600, 601, 505, 501]) (c := 7) (n := 0) (u := 3) hc).tr (Fz.nw (c := 1029007) (n := 10) (u := 10) c1)
    have f2 := f1.tr (Fz.of (Fx.rf.sR (k := 600) (a := a + 1) (i := 0) (v := some (a + 1 + 1)) (by decide)))
    have f3 := f2.tr (Fz.nw (c := 1029015) (n := 10) (u := 10) c3)
    exact f3.tr (Fz.of ((((((((((Fx.rf.sR (by decide)).sR (by decide)).sL (by decide)).sL (by decide)).sI (by decide)).sI (by decide)).sR (by decide)).sI (by decide)).sI (by decide)).sI (by decide)))
/-- old listeners stay, new core -/
theorem LI_cc {M : Mem} {x : Nat} {c c' : Core} {nk : Nat} {ka : Nat → Nat} {ns a l : Nat} (h6 : kI c' 6 l = kI c 6 l) (h7 : kI c' 7 l = kI c 7 l) (h8 : kI c' 8 l = kI c 8 l) (h9 : kI c' 9 l = kI c 9 l) (h10 : kL c' 10 l = kL c 10 l) (h11 : kL c' 11 l = kL c 11 l) (h12 : kI c' 12 l = kI c 12 l) (h13 : kI c' 13 l = kI c 13 l) (h14 : kI c' 14 l = kI c 14 l) (h17 : kI c' 17 l = kI c 17 l) (h18 : kI c' 18 l = kI c 18 l) (h15 : ∀ j, j < 10 → kI c' 15 (10 * l + j) = kI c 15 (10 * l + j)) (h16 : ∀ j, j < 10 → kI c' 16 (10 * l + j) = kI c 16 (10 * l + j)) (I : LI M x c nk ka ns a l) : LI M x c' nk ka ns a l := by
  obtain ⟨sm, t1, t2, t3, t4⟩ := li_size I
  simp only [LI, h6, h7, h8, h9, h10, h11, h12, h13, h14, h17, h18]
  refine ⟨li_at I, li_k I, li_num I, li_kind I, li_phase I, li_rank I, li_scene I, li_sc I, li_low I, li_high I, li_once I, li_on I, li_there I, li_th I, li_told I, li_tray I, li_prog I, li_pk I, li_ops I, li_ok I, li_on10 I, li_nums I, li_nk I, li_nn10 I, sm, t1, t2, t3, fun j hj => ?_⟩
  rw [h15 j (by omega), h16 j (by omega)]
  exact t4 j hj
theorem RC_cc {M : Mem} {x : Nat} {c c' : Core} {dp : Nat → Nat} {nl : Nat} {la : Nat → Nat} {ch : Nat → List Nat} (h : ∀ l, l < nl → kI c' 6 l = kI c 6 l ∧ kI c' 7 l = kI c 7 l ∧ kI c' 8 l = kI c 8 l) (C : RC M x c dp nl la ch) : RC M x c' dp nl la ch := by
  intro p hp
  have I := C p hp
  refine ⟨ch_lk I, ?_, fun l => ?_⟩
  · refine List.Pairwise.imp_of_mem (fun {a b} ha hb hh => ?_) (ch_pw I)
    obtain ⟨a1, a2, a3⟩ := h a ((ch_mem I a).mp ha).1
    obtain ⟨b1, b2, b3⟩ := h b ((ch_mem I b).mp hb).1
    unfold ah dqc at hh ⊢
    simp only [a1, a3, b1, b3]
    exact hh
  · rw [ch_mem I l]
    constructor
    · rintro ⟨g1, g2⟩; exact ⟨g1, by rw [(h l g1).2.1]; exact g2⟩
    · rintro ⟨g1, g2⟩; exact ⟨g1, by rw [← (h l g1).2.1]; exact g2⟩
theorem RS_cc {M : Mem} {x : Nat} {c c' : Core} {ns nl : Nat} (h3 : kI c' 3 0 = kI c 3 0) (h4 : ∀ s, s < ns → kI c' 4 s = kI c 4 s) (h13 : ∀ l, l < nl → kI c' 13 l = kI c 13 l) (C : RS M x c ns nl) : RS M x c' ns nl := by
  refine ⟨rs_le C, rs_sc C, by rw [h3]; exact rs_c C, fun s hs => by rw [h4 s hs]; exact rs_open C s hs, ?_, ?_⟩
  · rw [rs_cnt C, cnt_same (f := fun s => kI c 4 s) (g := fun s => kI c' 4 s) ns (fun i hi => by rw [h4 i hi])]
  · rw [rs_there C, cnt_same (f := fun s => kI c 13 s) (g := fun s => kI c' 13 s) nl (fun i hi => by rw [h13 i hi])]
/-- old listeners in a memory with new cells -/
theorem LI_far {M M1 : Mem} {x : Nat} {c : Core} {nk : Nat} {ka : Nat → Nat} {ns a l A : Nat} (I : LI M x c nk ka ns a l) (hk : ∀ q, mK M q ≠ 0 → mK M1 q = mK M q ∧ mN M1 q = mN M q) (hall : mR M1 6006008 (x + 5) l = mR M 6006008 (x + 5) l) (hA : a + 3 < A) (hI : ∀ k q i, q < A → mI M1 k q i = mI M k q i) (hL : ∀ k q i, q < A → mL M1 k q i = mL M k q i) (hR : ∀ k q, k ≠ 512 → q < A → mR M1 k q 0 = mR M k q 0) : LI M1 x c nk ka ns a l := by
  have k1 := hk a (by rw [li_k I]; decide)
  have k2 := hk (a + 1) (by rw [li_pk I]; decide)
  have k3 := hk (a + 2) (by rw [li_ok I]; decide)
  have k4 := hk (a + 3) (by rw [li_nk I]; decide)
  have i1 : ∀ k i, mI M1 k a i = mI M k a i := fun k i => hI k a i (by omega)
  have i2 : ∀ k i, mI M1 k (a + 1) i = mI M k (a + 1) i := fun k i => hI k _ i (by omega)
  have i3 : ∀ k i, mI M1 k (a + 2) i = mI M k (a + 2) i := fun k i => hI k _ i (by omega)
  have i4 : ∀ k i, mI M1 k (a + 3) i = mI M k (a + 3) i := fun k i => hI k _ i (by omega)
  have l1 : ∀ k i, mL M1 k a i = mL M k a i := fun k i => hL k a i (by omega)
  have r1 : mR M1 501 a 0 = mR M 501 a 0 := hR _ a (by decide) (by omega)
  have r2 : mR M1 505 a 0 = mR M 505 a 0 := hR _ a (by decide) (by omega)
  have r3 : mR M1 600 (a + 1) 0 = mR M 600 (a + 1) 0 := hR _ _ (by decide) (by omega)
  have r4 : mR M1 601 (a + 1) 0 = mR M 601 (a + 1) 0 := hR _ _ (by decide) (by omega)
  unfold LI at I ⊢
  simp only [hall, k1.1, k2.1, k3.1, k3.2, k4.1, k4.2, i1, i2, i3, i4, l1, r1, r2, r3, r4]
  exact I
theorem linit_rd {M : Mem} {a kd : Nat} {n p r s : Int32} : (∀ k q i, q < a → mI (linit M a n kd p r s) k q i = mI M k q i) ∧ (∀ k q i, q < a → mL (linit M a n kd p r s) k q i = mL M k q i) ∧ (∀ k q i, q < a → mR (linit M a n kd p r s) k q i = mR M k q i) := by
  refine ⟨fun k q i h => ?_, fun k q i h => ?_, fun k q i h => ?_⟩
  · unfold linit pinit
    simp only [mK_sI, mK_sL, mK_sR, mK_nw, mN_sI, mN_sL, mN_sR, mN_nw, mI_sI, mI_sL, mI_sR, mI_nw, mL_sI, mL_sL, mL_sR, mL_nw, mR_sI, mR_sL, mR_sR, mR_nw, mS_sI, mS_sL, mS_sR, mS_nw, mU_sI, mU_sL, mU_sR, mU_nw, show ¬ q = a by omega, false_and, and_false, if_false]
  · unfold linit pinit
    simp only [mK_sI, mK_sL, mK_sR, mK_nw, mN_sI, mN_sL, mN_sR, mN_nw, mI_sI, mI_sL, mI_sR, mI_nw, mL_sI, mL_sL, mL_sR, mL_nw, mR_sI, mR_sL, mR_sR, mR_nw, mS_sI, mS_sL, mS_sR, mS_nw, mU_sI, mU_sL, mU_sR, mU_nw, show ¬ q = a by omega, false_and, and_false, if_false]
  · unfold linit pinit
    simp only [mK_sI, mK_sL, mK_sR, mK_nw, mN_sI, mN_sL, mN_sR, mN_nw, mI_sI, mI_sL, mI_sR, mI_nw, mL_sI, mL_sL, mL_sR, mL_nw, mR_sI, mR_sL, mR_sR, mR_nw, mS_sI, mS_sL, mS_sR, mS_nw, mU_sI, mU_sL, mU_sR, mU_nw, show ¬ q = a by omega, show ¬ q = a + 1 by omega, false_and, and_false, if_false]
def lstC (c : Core) (l : Nat) (k p r s : Int32) : Core := uI (uI (uI (uI (uI (uL (uL (uI (uI (uI (uI (uI c 5 0 (nI (l + 1))) 6 l k) 7 l p) 8 l r) 9 l s) 10 l (-9223372036854775808)) 11 l 9223372036854775807) 12 l 0) 13 l 1) 14 l 0) 17 l 0) 18 l 0
theorem core_listen (M : Mem) (h l : Nat) (k p r s : Int32) : core (s_listen M h l k p r s) h = lstC (core M h) l k p r s := by
  unfold s_listen lstC
  rw [cu_trayOf, cu_toldOften, cu_stepMany, cu_there, cu_isOnce, cu_highOf, cu_lowOf, cu_sceneOf, cu_rankOf, cu_phaseOf, cu_kindOf, cu_listeners]
theorem LJ_init {M : Mem} {x : Nat} {c : Core} {nk : Nat} {ka : Nat → Nat} {ns a l k p : Nat} {r s : Int32} (hc : Cln M) (hk : mK M a = 6) (hs : mS M = a + 1) (hcl : ∀ kk i, rk kk = false → mI M kk a i = 0 ∧ mL M kk a i = 0 ∧ mR M kk a i = none) (hkn : k < nk) (hp : p < 3) (hsc : s = -4 ∨ inN s ns) : LJ (linit M a (nI l) (ka k) (nI p) r s) x (lstC c l (nI k) (nI p) r s) nk ka ns a l := by
  have z1 := fun kk i (hr : rk kk = false) => (hc (a + 1) (by omega)).2 kk i hr
  unfold linit pinit lstC
  simp only [LJ, mK_sI, mK_sL, mK_sR, mK_nw, mN_sI, mN_sL, mN_sR, mN_nw, mI_sI, mI_sL, mI_sR, mI_nw, mL_sI, mL_sL, mL_sR, mL_nw, mR_sI, mR_sL, mR_sR, mR_nw, mS_sI, mS_sL, mS_sR, mS_nw, mU_sI, mU_sL, mU_sR, mU_nw, kI_uI, kI_uL, kL_uI, kL_uL, hk, hs, Nat.reduceEqDiff, false_and, if_false, true_and, and_true, and_self, if_true, (z1 602 0 rfl).1, (hcl 508 0 rfl).1, (hcl 510 0 rfl).1, (hcl 511 0 rfl).1, show ¬ a = a + 1 by omega, show ¬ a = a + 1 + 1 by omega, show ¬ a = a + 1 + 1 + 1 by omega, show ¬ a + 1 = a + 1 + 1 by omega, show ¬ a + 1 = a + 1 + 1 + 1 by omega, show ¬ a + 2 = a + 1 by omega, show a + 2 = a + 1 + 1 by omega, show ¬ a + 1 + 1 = a + 1 + 1 + 1 by omega, show a + 3 = a + 1 + 1 + 1 by omega]
  refine ⟨⟨k, hkn, rfl, rfl⟩, ⟨p, hp, rfl⟩, hsc, Or.inl trivial, Or.inr trivial, ⟨0, by omega, rfl⟩, ⟨0, by omega, rfl, rfl, fun j hj => by omega⟩⟩
