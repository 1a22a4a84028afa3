/-! Frames in which cells may be made -/
def Fz (ki kl kr : List Nat) (M M' : Mem) : Prop := (∀ q, mK M q ≠ 0 → mK M' q = mK M q ∧ mN M' q = mN M q) ∧ (∀ k, k ∉ ki → mI M' k = mI M k) ∧ (∀ k, k ∉ kl → mL M' k = mL M k) ∧ (∀ k, k ∉ kr → mR M' k = mR M k)
theorem Fz.of {ki kl kr : List Nat} {M M' : Mem} (h : Fx ki kl kr M M') : Fz ki kl kr M M' := ⟨fun q _ => ⟨by rw [h.1], by rw [h.2.1]⟩, h.2.2.2.2.1, h.2.2.2.2.2.1, h.2.2.2.2.2.2⟩
theorem Fz.tr {ki kl kr : List Nat} {M M1 M2 : Mem} (h : Fz ki kl kr M M1) (g : Fz ki kl kr M1 M2) : Fz ki kl kr M M2 := ⟨fun q hq => by
  have h1 := h.1 q hq
  have h2 := g.1 q (by rw [h1.1]; exact hq)
  exact ⟨h2.1.trans h1.1, h2.2.trans h1.2⟩, fun k hk => (g.2.1 k hk).trans (h.2.1 k hk), fun k hk => (g.2.2.1 k hk).trans (h.2.2.1 k hk), fun k hk => (g.2.2.2 k hk).trans (h.2.2.2 k hk)⟩
theorem Fz.rf {ki kl kr : List Nat} {M : Mem} : Fz ki kl kr M M := Fz.of Fx.rf
theorem Fz.mono {ki kl kr ki' kl' kr' : List Nat} {M M1 : Mem} (h : Fz ki kl kr M M1) (h1 : ∀ k ∈ ki, k ∈ ki') (h2 : ∀ k ∈ kl, k ∈ kl') (h3 : ∀ k ∈ kr, k ∈ kr') : Fz ki' kl' kr' M M1 := ⟨h.1, fun k hk => h.2.1 k (fun q => hk (h1 k q)), fun k hk => h.2.2.1 k (fun q => hk (h2 k q)), fun k hk => h.2.2.2 k (fun q => hk (h3 k q))⟩
theorem Fz.nw {ki kl kr : List Nat} {M : Mem} (hc : Cln M) {c n u : Nat} : Fz ki kl kr M (nw M c n u) := by
  refine ⟨fun q hq => ?_, fun _ _ => rfl, fun _ _ => rfl, fun _ _ => rfl⟩
  have := cl_lt hc hq
  rw [mK_nw, mN_nw, if_neg (by omega), if_neg (by omega)]
  exact ⟨rfl, rfl⟩
theorem Fz.i {ki kl kr : List Nat} {M M1 : Mem} (h : Fz ki kl kr M M1) (k : Nat) (hk : dj ki [k] = true) : mI M1 k = mI M k := h.2.1 k (dj_ne hk (List.mem_singleton.mpr rfl))
theorem Fz.l {ki kl kr : List Nat} {M M1 : Mem} (h : Fz ki kl kr M M1) (k : Nat) (hk : dj kl [k] = true) : mL M1 k = mL M k := h.2.2.1 k (dj_ne hk (List.mem_singleton.mpr rfl))
theorem Fz.r {ki kl kr : List Nat} {M M1 : Mem} (h : Fz ki kl kr M M1) (k : Nat) (hk : dj kr [k] = true) : mR M1 k = mR M k := h.2.2.2 k (dj_ne hk (List.mem_singleton.mpr rfl))
theorem core_fz {ki kl kr : List Nat} {M M1 : Mem} {h : Nat} (F : Fz ki kl kr M M1) (d1 : ki.all (fun k => !rk k) = true) (d2 : kl.all (fun k => !rk k) = true) : core M1 h = core M h := by
  refine Prod.ext ?_ ?_
  · funext k i
    show mI M1 (kc k) (h + ko k) i = mI M (kc k) (h + ko k) i
    rw [F.2.1 (kc k) (fun q => by have := List.all_eq_true.mp d1 _ q; rw [rk_kc] at this; cases this)]
  · funext k i
    show mL M1 (kc k) (h + ko k) i = mL M (kc k) (h + ko k) i
    rw [F.2.2.1 (kc k) (fun q => by have := List.all_eq_true.mp d2 _ q; rw [rk_kc] at this; cases this)]
theorem RM_fz {ki kl kr : List Nat} {M M1 : Mem} {h : Nat} (F : Fz ki kl kr M M1) (d3 : dj kr (rmF.map (fun q => q.1)) = true) (H : RM M h) : RM M1 h := by
  have hz : ∀ q ∈ rmF, q.2.2.1 ≠ 0 := by decide
  refine ⟨by rw [(F.1 h (by rw [H.1]; decide)).1]; exact H.1, fun q hq => ?_⟩
  obtain ⟨h1, h2, h3⟩ := H.2 q hq
  have h4 := F.1 (h + q.2.1) (by rw [h2]; exact hz q hq)
  rw [h4.1, h4.2, F.2.2.2 q.1 (dj_ne d3 (List.mem_map.mpr ⟨q, hq, rfl⟩))]
  exact ⟨h1, h2, h3⟩
theorem SH_fz {ki kl kr : List Nat} {M M1 : Mem} {x : Nat} (F : Fz ki kl kr M M1) (d1 : dj ki [100] = true) (d3 : dj kr (7038029 :: 900 :: 4038071 :: shR.map (fun q => q.1)) = true) (H : SH M x) : SH M1 x := by
  have r1 := F.2.2.2 7038029 (dj_ne d3 (by decide))
  have r2 := F.2.2.2 900 (dj_ne d3 (by decide))
  have r3 := F.2.2.2 4038071 (dj_ne d3 (by decide))
  have i1 := F.2.1 100 (dj_ne d1 (by decide))
  have hz : ∀ z ∈ shO, z.2.1 ≠ 0 := by decide
  unfold SH
  rw [r1, r2, r3, i1]
  refine ⟨by rw [(F.1 _ (by rw [H.1]; decide)).1]; exact H.1, fun q hq => ?_, fun q hq => ?_, fun t ht => ?_, fun e he => ?_⟩
  · have h := H.2.1 q hq
    have h4 := F.1 (x + q.1) (by rw [h.1]; exact hz q hq)
    rw [h4.1, h4.2]; exact h
  · rw [F.2.2.2 q.1 (dj_ne d3 (List.mem_cons_of_mem _ (List.mem_cons_of_mem _ (List.mem_cons_of_mem _ (List.mem_map.mpr ⟨q, hq, rfl⟩)))))]
    exact H.2.2.1 q hq
  · obtain ⟨a1, a2, a3, a4, a5⟩ := H.2.2.2.1 t ht
    rw [(F.1 _ (by rw [a2]; decide)).1, (F.1 _ (by rw [a4]; decide)).1, (F.1 _ (by rw [a4]; decide)).2]
    exact ⟨a1, a2, a3, a4, a5⟩
  · obtain ⟨a1, a2, a3⟩ := H.2.2.2.2 e he
    rw [(F.1 _ (by rw [a2]; decide)).1]
    exact ⟨a1, a2, a3⟩
theorem RK_fz {M M1 : Mem} {x : Nat} {c : Core} {nk : Nat} {ka dp : Nat → Nat} {ki kl kr : List Nat} (F : Fz ki kl kr M M1) (d1 : dj ki [300, 301, 401] = true) (d2 : dj kl [302, 303] = true) (d3 : dj kr [5022007] = true) (H : RK M x c nk ka dp) : RK M1 x c nk ka dp := by
  have i300 := F.2.1 300 (dj_ne d1 (by decide))
  have i301 := F.2.1 301 (dj_ne d1 (by decide))
  have i401 := F.2.1 401 (dj_ne d1 (by decide))
  have l302 := F.2.2.1 302 (dj_ne d2 (by decide))
  have l303 := F.2.2.1 303 (dj_ne d2 (by decide))
  have r1 := F.2.2.2 5022007 (dj_ne d3 (by decide))
  refine ⟨H.1, by rw [i401]; exact H.2.1, H.2.2.1, fun i hi => ?_⟩
  have I := rk_i H i hi
  have hk := (F.1 (ka i) (by rw [ki_k I]; decide)).1
  unfold KI at I ⊢
  rw [i300, i301, l302, l303, r1, hk]
  exact I
theorem CI_fz {M : Mem} {x : Nat} {c : Core} {dp : Nat → Nat} {nl : Nat} {la : Nat → Nat} {p : Nat} {L : List Nat} {ki kl kr : List Nat} {M1 : Mem} (F : Fz ki kl kr M M1) (d3 : dj kr [512, 6006016] = true) : CI M1 x c dp nl la p L = CI M x c dp nl la p L := by
  have mR512 := F.2.2.2 512 (dj_ne d3 (by decide))
  have mR6006016 := F.2.2.2 6006016 (dj_ne d3 (by decide))
  simp only [CI, mR512, mR6006016]
theorem RC_fz {M : Mem} {x : Nat} {c : Core} {dp : Nat → Nat} {nl : Nat} {la : Nat → Nat} {ch : Nat → List Nat} {ki kl kr : List Nat} {M1 : Mem} (F : Fz ki kl kr M M1) (d3 : dj kr [512, 6006016] = true) : RC M1 x c dp nl la ch = RC M x c dp nl la ch := by
  have mR512 := F.2.2.2 512 (dj_ne d3 (by decide))
  have mR6006016 := F.2.2.2 6006016 (dj_ne d3 (by decide))
  simp only [RC, CI, mR512, mR6006016]
theorem RS_fz {M : Mem} {x : Nat} {c : Core} {ns : Nat} {nl : Nat} {ki kl kr : List Nat} {M1 : Mem} (F : Fz ki kl kr M M1) (d1 : dj ki [204, 205, 206, 3006025] = true) : RS M1 x c ns nl = RS M x c ns nl := by
  have mI204 := F.2.1 204 (dj_ne d1 (by decide))
  have mI205 := F.2.1 205 (dj_ne d1 (by decide))
  have mI206 := F.2.1 206 (dj_ne d1 (by decide))
  have mI3006025 := F.2.1 3006025 (dj_ne d1 (by decide))
  simp only [RS, mI204, mI205, mI206, mI3006025]
theorem TI_fz {M : Mem} {c : Core} {a : Nat} {b : Nat} {t : Nat} {ki kl kr : List Nat} {M1 : Mem} (F : Fz ki kl kr M M1) (d1 : dj ki [901, 902] = true) (d2 : dj kl [2050007] = true) : TI M1 c a b t = TI M c a b t := by
  have mI901 := F.2.1 901 (dj_ne d1 (by decide))
  have mI902 := F.2.1 902 (dj_ne d1 (by decide))
  have mL2050007 := F.2.2.1 2050007 (dj_ne d2 (by decide))
  simp only [TI, mI901, mI902, mL2050007]
theorem RT_fz {M : Mem} {x : Nat} {c : Core} {ki kl kr : List Nat} {M1 : Mem} (F : Fz ki kl kr M M1) (d1 : dj ki [901, 902] = true) (d2 : dj kl [2050007] = true) : RT M1 x c = RT M x c := by
  have mI901 := F.2.1 901 (dj_ne d1 (by decide))
  have mI902 := F.2.1 902 (dj_ne d1 (by decide))
  have mL2050007 := F.2.2.1 2050007 (dj_ne d2 (by decide))
  simp only [RT, TI, mI901, mI902, mL2050007]
theorem RA_fz {M : Mem} {x : Nat} {c : Core} {nk : Nat} {ka : Nat → Nat} {ki kl kr : List Nat} {M1 : Mem} (F : Fz ki kl kr M M1) (d1 : dj ki [2, 3] = true) (d2 : dj kl [2000016] = true) (d3 : dj kr [5000007] = true) : RA M1 x c nk ka = RA M x c nk ka := by
  have mI2 := F.2.1 2 (dj_ne d1 (by decide))
  have mI3 := F.2.1 3 (dj_ne d1 (by decide))
  have mL2000016 := F.2.2.1 2000016 (dj_ne d2 (by decide))
  have mR5000007 := F.2.2.2 5000007 (dj_ne d3 (by decide))
  simp only [RA, mI2, mI3, mL2000016, mR5000007]
theorem RP_fz {M : Mem} {x : Nat} {c : Core} {cu : Nat} {nf : Nat} {lg : Nat} {ki kl kr : List Nat} {M1 : Mem} (F : Fz ki kl kr M M1) (d1 : dj ki [704, 705, 706, 707, 708, 709, 1032015, 1032023, 1032031] = true) (d2 : dj kl [2032007] = true) : RP M1 x c cu nf lg = RP M x c cu nf lg := by
  have mI704 := F.2.1 704 (dj_ne d1 (by decide))
  have mI705 := F.2.1 705 (dj_ne d1 (by decide))
  have mI706 := F.2.1 706 (dj_ne d1 (by decide))
  have mI707 := F.2.1 707 (dj_ne d1 (by decide))
  have mI708 := F.2.1 708 (dj_ne d1 (by decide))
  have mI709 := F.2.1 709 (dj_ne d1 (by decide))
  have mI1032015 := F.2.1 1032015 (dj_ne d1 (by decide))
  have mI1032023 := F.2.1 1032023 (dj_ne d1 (by decide))
  have mI1032031 := F.2.1 1032031 (dj_ne d1 (by decide))
  have mL2032007 := F.2.2.1 2032007 (dj_ne d2 (by decide))
  simp only [RP, mI704, mI705, mI706, mI707, mI708, mI709, mI1032015, mI1032023, mI1032031, mL2032007]
theorem RV_fz {M : Mem} {x : Nat} {c : Core} {ki kl kr : List Nat} {M1 : Mem} (F : Fz ki kl kr M M1) (d1 : dj ki [710] = true) (d2 : dj kl [711] = true) : RV M1 x c = RV M x c := by
  have mI710 := F.2.1 710 (dj_ne d1 (by decide))
  have mL711 := F.2.2.1 711 (dj_ne d2 (by decide))
  simp only [RV, mI710, mL711]
theorem RW_fz {M : Mem} {x : Nat} {c : Core} {nk : Nat} {ka : Nat → Nat} {wn : Nat} {ki kl kr : List Nat} {M1 : Mem} (F : Fz ki kl kr M M1) (d1 : dj ki [1002, 1003] = true) (d2 : dj kl [2056016] = true) (d3 : dj kr [5056007] = true) : RW M1 x c nk ka wn = RW M x c nk ka wn := by
  have mI1002 := F.2.1 1002 (dj_ne d1 (by decide))
  have mI1003 := F.2.1 1003 (dj_ne d1 (by decide))
  have mL2056016 := F.2.2.1 2056016 (dj_ne d2 (by decide))
  have mR5056007 := F.2.2.2 5056007 (dj_ne d3 (by decide))
  simp only [RW, mI1002, mI1003, mL2056016, mR5056007]

set_option maxRecDepth 20000 in
theorem c_seat {D : DD} {d : Nat} {M1 : Mem} {x : Nat} {c c0 : Core} {nk : Nat} {ka dp : Nat → Nat} {ns nl : Nat} {la : Nat → Nat} {ch : Nat → List Nat} {a p : Nat} {Q : Qt}
    (S : SH M1 x) (hcl : Cln M1) (hnl : nl < 200) (hcm : (mI M1 203 (x + 4) 0) = nI nl) (K : RK M1 x c0 nk ka dp) (IJ : LJ M1 x c nk ka ns a nl) (hl : ∀ l, l < nl → LI M1 x c nk ka ns (la l) l) (C : RC M1 x c dp nl la ch) (Sc : RS M1 x c ns nl) (h5 : (kI c 5 0) = nI (nl + 1)) (h13 : (kI c 13 (nl)) = 1) (hp : p < 3) (hph : (kI c 7 (nl)) = nI p) (hne : ∀ l, l < nl → la l ≠ a)
    (hq : ∀ M', PostSeat M1 x c nk ka dp ns nl la ch a M' → Q M' none) : Call D (d + 6) mi_X2_seat [.ref (x + 4), .ref a] M1 Q := by
  obtain ⟨p', p1, p2, p3⟩ := lj_phase IJ
  have ep : p' = p := (nI_eq (by omega) (by omega)).mp (by rw [← p3, hph])
  subst ep
  have ka6 := lj_k IJ
  refine call_of (by decide) (Nat.le_of_ble_eq_true rfl) ?_
  refine runL 60 (tbk_X2_seat (csj_c mn_X11_isPhase c_phase (csj_n (Jok 4 (d + 1))))) 60 ?_
  simp -implicitDefEqProofs +decide only [go_0, pI_i, pL_i, pA_i, pA_s, pV_i, oI_i, oL_i, oV_i, lk, rm1, rm2, isR_rf, isR_ref, isR_null, rfo_rf, rfo_ref, rfo_null, rf_some, rf_none, rf_eq_null, rf_eq_ref, ↓nl_n, ↓nl_r, nl_rf, cat_i, cat_l, cat_r, cat_n, cat_rf, lv_args, pN_0, pN_s, tr_ic, tr_lc, tr_null, tr_iload, tr_lload, tr_aload, tr_istore, tr_lstore, tr_astore, tr_iinc, tr_iadd, tr_isub, tr_imul, tr_iand, tr_irem, tr_ladd, tr_lsub, tr_land, tr_lor, tr_lshl, tr_ldiv, tr_lrem, tr_i2l, tr_l2i, tr_i2b, tr_lcmp, tr_dup, tr_dup2, tr_pop, tr_goto, tr_ifeq, tr_ifne, tr_iflt, tr_ifge, tr_ifgt, tr_ifle, tr_iceq, tr_icne, tr_iclt, tr_icge, tr_icgt, tr_icle, tr_ifnull, tr_ifnonnull, tr_sw, tr_getI, tr_getL, tr_getR, tr_putI, tr_putZ, tr_putL, tr_putR, tr_iald, tr_lald, tr_bald, tr_aald, tr_alen, tr_iast, tr_bast, tr_last, tr_aast, tr_newa, tr_anew, tr_new, tr_callV, tr_callS, tr_callI, tr_obj, tr_iret, tr_zret, tr_lret, tr_aret, tr_ret, Nat.reduceAdd, Nat.reduceMul, Nat.reduceDiv, Nat.reduceEqDiff, Nat.reduceLT, Nat.reduceLeDiff, ↓reduceIte, true_and, and_true, true_or, or_true, List.length_nil, List.length_cons, List.nil_append, List.cons_append, Option.toList_some, Option.toList_none, and_self, or_false, false_or, false_and, and_false, imp_self, forall_const, Nat.one_ne_zero, Nat.succ_ne_self, not_true_eq_false, not_false_eq_true, reduceCtorEq, Nat.add_eq_right, Nat.add_eq_left, Nat.add_left_cancel_iff, Nat.zero_add, Int32.reduceLT, Int32.reduceLE, Int32.reduceAdd, Int32.reduceSub, Int32.reduceMul, lg_cmp_ge, lg_cmp_le, lg_cmp_gt, lg_cmp_lt, lg_cmp_eq, i10, i01, eq_self, false_implies, true_implies, implies_true, mK_sI, mK_sL, mK_sR, mK_nw, mN_sI, mN_sL, mN_sR, mN_nw, mI_sI, mI_sL, mI_sR, mI_nw, mL_sI, mL_sL, mL_sR, mL_nw, mR_sI, mR_sL, mR_sR, mR_nw, mS_sI, mS_sL, mS_sR, mS_nw, mU_sI, mU_sL, mU_sR, mU_nw, go_1, csj, inl, lgn, lgc, sp_phase, J_X2_isFull, a_X2_isFull_0, a_X2_isFull_1, a_X2_isFull_4, a_X2_isFull_7, a_X2_isFull_10, a_X2_isFull_11, a_X2_isFull_14, a_X2_isFull_15, sh_x S, (sh_k2 S).1, (sh_k2 S).2, (sh_k4 S).1, (sh_k4 S).2, (sh_k9 S).1, (sh_k9 S).2, (sh_k12 S).1, (sh_k12 S).2, (sh_k1 S).1, (sh_k1 S).2, (sh_k17 S).1, (sh_k17 S).2, (sh_k3 S).1, (sh_k3 S).2, (sh_k5 S).1, (sh_k5 S).2, (sh_k6 S).1, (sh_k6 S).2, (sh_k7 S).1, (sh_k7 S).2, (sh_k8 S).1, (sh_k8 S).2, (sh_k10 S).1, (sh_k10 S).2, (sh_k11 S).1, (sh_k11 S).2, (sh_k13 S).1, (sh_k13 S).2, (sh_k14 S).1, (sh_k14 S).2, (sh_k15 S).1, (sh_k15 S).2, (sh_k16 S).1, (sh_k16 S).2, (sh_k18 S).1, (sh_k18 S).2, (sh_k19 S).1, (sh_k19 S).2, (sh_k20 S).1, (sh_k20 S).2, sh_Desk_teller S, sh_Desk_kinds S, sh_Desk_house S, sh_Desk_trays S, sh_Desk_acts S, sh_Desk_report S, sh_Kinds_all S, sh_House_all S, sh_House_firsts S, sh_House_open S, sh_Acts_of S, sh_Acts_values S, sh_Report_log S, sh_Report_failureOf S, sh_Report_failureBy S, sh_Report_failureAt S, sh_Teller_kinds S, sh_Teller_house S, sh_Teller_trays S, sh_Teller_acts S, sh_Teller_report S, sh_Teller_waiting S, sh_Teller_cues S, sh_Waiting_of S, sh_Waiting_values S, ka6, p2, hcm, inN_nI p1 (show 3 < 2 ^ 31 by omega), nI_ltL (n := 200) (L := 200) rfl (show nl < 2 ^ 31 by omega) (by decide), hnl, nI_clamp (show nl < 2 ^ 31 by omega), vp_in_nI hnl (by decide), nI_clamp (show p' < 2 ^ 31 by omega), vp_in_nI p1 (by decide), ← nI_succ, a_X2_seat_0, a_X2_seat_1, a_X2_seat_4, a_X2_seat_7, a_X2_seat_8, a_X2_seat_11, a_X2_seat_14, a_X2_seat_17, a_X2_seat_18, a_X2_seat_19, a_X2_seat_22, a_X2_seat_23, a_X2_seat_26, a_X2_seat_27, a_X2_seat_28, a_X2_seat_29, a_X2_seat_30, a_X2_seat_33, a_X2_seat_34, a_X2_seat_35, a_X2_seat_38, a_X2_seat_39, a_X2_seat_40, a_X2_seat_43, a_X2_seat_44, a_X2_seat_45, a_X2_seat_48, a_X2_seat_49, a_X2_seat_50, a_X2_seat_51, a_X2_seat_54, a_X2_seat_55, a_X2_seat_58, a_X2_seat_59, a_X2_seat_60, a_X2_seat_61, a_X2_seat_64, a_X2_seat_65, a_X2_seat_66, a_X2_seat_69, a_X2_seat_72, a_X2_seat_73, a_X2_seat_74, a_X2_seat_75, a_X2_seat_78, a_X2_seat_79, a_X2_seat_82, a_X2_seat_83, a_X2_seat_84, a_X2_seat_87, a_X2_seat_88, a_X2_seat_91, a_X2_seat_92, a_X2_seat_95, a_X2_seat_96, a_X2_seat_99, a_X2_seat_100, a_X2_seat_101, a_X2_seat_104, a_X2_seat_105, a_X2_seat_106, a_X2_seat_109]
  refine ⟨fun b hb => by cases hb; exact ka6, ?_⟩
  refine wp_sub (lv := [(0, .ref (x + 4)), (1, .ref a), (2, .null), (3, va_rf ((mR M1 6006016 (x + 6) (p'))))]) ?_ ?_
  · intro q hq
    simp only [List.mem_cons, List.not_mem_nil, or_false] at hq ⊢
    rcases hq with rfl | rfl | rfl | rfl <;> simp [rf_none]
  refine l_seat (d := d + 4) (n := nl) (la := la) (L := ch p') (rk := fun l => (kI c 8 (l))) (dq := fun l => dqc c dp l) ?_ p1 ?_ ?_ ?_ ?_ ?_ ?_ ?_
  · rw [SH_sI (by decide), SH_sI (by decide)]
    exact SH_sR (by decide) (by decide) (by decide) (by decide) S
  · simp only [mK_sI, mK_sL, mK_sR, mK_nw, mN_sI, mN_sL, mN_sR, mN_nw, mI_sI, mI_sL, mI_sR, mI_nw, mL_sI, mL_sL, mL_sR, mL_nw, mR_sI, mR_sL, mR_sR, mR_nw, mS_sI, mS_sL, mS_sR, mS_nw, mU_sI, mU_sL, mU_sR, mU_nw, Nat.reduceEqDiff, false_and, if_false]; exact p2
  · obtain ⟨k1, k2, k3, k, k4, k5, k6⟩ := Ld_of K IJ
    refine ⟨k1, ?_, k3, k, ?_, k5, ?_⟩ <;> simp only [mK_sI, mK_sL, mK_sR, mK_nw, mN_sI, mN_sL, mN_sR, mN_nw, mI_sI, mI_sL, mI_sR, mI_nw, mL_sI, mL_sL, mL_sR, mL_nw, mR_sI, mR_sL, mR_sR, mR_nw, mS_sI, mS_sL, mS_sR, mS_nw, mU_sI, mU_sL, mU_sR, mU_nw, Nat.reduceEqDiff, false_and, if_false] <;> assumption
  · intro m hm
    have hm2 := ((ch_mem (C p' p1) m).mp hm).1
    obtain ⟨k1, k2, k3, k, k4, k5, k6⟩ := Ld_of K (hl m hm2).2
    refine ⟨k1, ?_, k3, k, ?_, k5, ?_⟩ <;> simp only [mK_sI, mK_sL, mK_sR, mK_nw, mN_sI, mN_sL, mN_sR, mN_nw, mI_sI, mI_sL, mI_sR, mI_nw, mL_sI, mL_sL, mL_sR, mL_nw, mR_sI, mR_sL, mR_sR, mR_nw, mS_sI, mS_sL, mS_sR, mS_nw, mU_sI, mU_sL, mU_sR, mU_nw, Nat.reduceEqDiff, false_and, if_false] <;> assumption
  · intro m hm
    exact hne m ((ch_mem (C p' p1) m).mp hm).1
  · simp only [mK_sI, mK_sL, mK_sR, mK_nw, mN_sI, mN_sL, mN_sR, mN_nw, mI_sI, mI_sL, mI_sR, mI_nw, mL_sI, mL_sL, mL_sR, mL_nw, mR_sI, mR_sL, mR_sR, mR_nw, mS_sI, mS_sL, mS_sR, mS_nw, mU_sI, mU_sL, mU_sR, mU_nw, Nat.reduceEqDiff, false_and, if_false]
  · have := ch_lk (C p' p1)
    simp only [mK_sI, mK_sL, mK_sR, mK_nw, mN_sI, mN_sL, mN_sR, mN_nw, mI_sI, mI_sL, mI_sR, mI_nw, mL_sI, mL_sL, mL_sR, mL_nw, mR_sI, mR_sL, mR_sR, mR_nw, mS_sI, mS_sL, mS_sR, mS_nw, mU_sI, mU_sL, mU_sR, mU_nw, Nat.reduceEqDiff, false_and, if_false]
    exact this
  · intro A B hAB hI
    have := post_seat rfl S hcl hnl K IJ hl C Sc h5 h13 p1 hph hne hAB hI
    exact hq _ this
/-! a program is taken over -/
def Took (M1 : Mem) (b o i : Nat) (M : Mem) : Prop := Fx [1029007, 1029015, 602] [] [] M1 M ∧ Cln M ∧ (∀ q j, mI M 1029007 q j = if q = b + 1 ∧ j < i then mI M1 1029007 (o + 1) j else mI M1 1029007 q j) ∧ (∀ q j, mI M 1029015 q j = if q = b + 2 ∧ j < i then mI M1 1029015 (o + 2) j else mI M1 1029015 q j) ∧ (∀ q j, mI M 602 q j = if q = b ∧ j = 0 then nI i else mI M1 602 q j)
def Pg (M : Mem) (b : Nat) : Prop := mK M b = 7 ∧ mR M 600 b 0 = some (b + 1) ∧ mK M (b + 1) = 1029007 ∧ mN M (b + 1) = 10 ∧ mR M 601 b 0 = some (b + 2) ∧ mK M (b + 2) = 1029015 ∧ mN M (b + 2) = 10
theorem Pg_fx {M M1 : Mem} {b : Nat} (F : Fx [1029007, 1029015, 602] [] [] M M1) (h : Pg M b) : Pg M1 b := by
  unfold Pg
  rw [F.1, F.2.1, F.r 600 (by decide), F.r 601 (by decide)]
  exact h
set_option maxRecDepth 20000 in
theorem l_take {D : DD} {d : Nat} {M0 M1 : Mem} {b o sm : Nat} {Q : Qt} (hb : Pg M1 b) (ho : Pg M1 o) (hbo : ¬ o = b) (hbo1 : ¬ o + 1 = b + 1) (hbo2 : ¬ o + 2 = b + 2) (hs : mI M1 602 o 0 = nI sm) (hsm : sm ≤ 10) (hq : ∀ M', Took M1 b o sm M' → Q M' none) : ∀ (r i : Nat) (M : Mem), i + r = sm → Took M1 b o i M →
    wp D (d + 3) mi_X6_takeOver M0 M 2 [(0, .ref b), (1, .ref o), (2, .int (nI i))] [] Q := by
  intro r
  induction r with
  | zero =>
    intro i M hi T
    have e : sm = i := by omega
    subst e
    obtain ⟨F, hc, t1, t2, t3⟩ := T
    obtain ⟨o1, o2, o3, o4, o5, o6, o7⟩ := Pg_fx F ho
    have s1 : mI M 602 o 0 = nI sm := by rw [t3, if_neg (fun q => hbo q.1)]; exact hs
    refine runL 2 (tbk_X6_takeOver (csj_n (Jok 2 d))) 40 ?_
    simp -implicitDefEqProofs +decide only [go_0, pI_i, pL_i, pA_i, pA_s, pV_i, oI_i, oL_i, oV_i, lk, rm1, rm2, isR_rf, isR_ref, isR_null, rfo_rf, rfo_ref, rfo_null, rf_some, rf_none, rf_eq_null, rf_eq_ref, ↓nl_n, ↓nl_r, nl_rf, cat_i, cat_l, cat_r, cat_n, cat_rf, lv_args, pN_0, pN_s, tr_ic, tr_lc, tr_null, tr_iload, tr_lload, tr_aload, tr_istore, tr_lstore, tr_astore, tr_iinc, tr_iadd, tr_isub, tr_imul, tr_iand, tr_irem, tr_ladd, tr_lsub, tr_land, tr_lor, tr_lshl, tr_ldiv, tr_lrem, tr_i2l, tr_l2i, tr_i2b, tr_lcmp, tr_dup, tr_dup2, tr_pop, tr_goto, tr_ifeq, tr_ifne, tr_iflt, tr_ifge, tr_ifgt, tr_ifle, tr_iceq, tr_icne, tr_iclt, tr_icge, tr_icgt, tr_icle, tr_ifnull, tr_ifnonnull, tr_sw, tr_getI, tr_getL, tr_getR, tr_putI, tr_putZ, tr_putL, tr_putR, tr_iald, tr_lald, tr_bald, tr_aald, tr_alen, tr_iast, tr_bast, tr_last, tr_aast, tr_newa, tr_anew, tr_new, tr_callV, tr_callS, tr_callI, tr_obj, tr_iret, tr_zret, tr_lret, tr_aret, tr_ret, Nat.reduceAdd, Nat.reduceMul, Nat.reduceDiv, Nat.reduceEqDiff, Nat.reduceLT, Nat.reduceLeDiff, ↓reduceIte, true_and, and_true, true_or, or_true, List.length_nil, List.length_cons, List.nil_append, List.cons_append, Option.toList_some, Option.toList_none, and_self, or_false, false_or, false_and, and_false, imp_self, forall_const, Nat.one_ne_zero, Nat.succ_ne_self, not_true_eq_false, not_false_eq_true, reduceCtorEq, Nat.add_eq_right, Nat.add_eq_left, Nat.add_left_cancel_iff, Nat.zero_add, Int32.reduceLT, Int32.reduceLE, Int32.reduceAdd, Int32.reduceSub, Int32.reduceMul, lg_cmp_ge, lg_cmp_le, lg_cmp_gt, lg_cmp_lt, lg_cmp_eq, i10, i01, eq_self, false_implies, true_implies, implies_true, mK_sI, mK_sL, mK_sR, mK_nw, mN_sI, mN_sL, mN_sR, mN_nw, mI_sI, mI_sL, mI_sR, mI_nw, mL_sI, mL_sL, mL_sR, mL_nw, mR_sI, mR_sL, mR_sR, mR_nw, mS_sI, mS_sL, mS_sR, mS_nw, mU_sI, mU_sL, mU_sR, mU_nw, go_1, csj, inl, lgn, lgc, o1, s1, Int32.le_refl, a_X6_takeOver_0, a_X6_takeOver_1, a_X6_takeOver_2, a_X6_takeOver_3, a_X6_takeOver_4, a_X6_takeOver_7, a_X6_takeOver_10, a_X6_takeOver_11, a_X6_takeOver_12, a_X6_takeOver_15, a_X6_takeOver_16, a_X6_takeOver_17, a_X6_takeOver_18, a_X6_takeOver_21, a_X6_takeOver_22, a_X6_takeOver_23, a_X6_takeOver_26, a_X6_takeOver_27, a_X6_takeOver_30, a_X6_takeOver_33]
    exact hq M ⟨F, hc, t1, t2, t3⟩
  | succ r ih =>
    intro i M hi T
    obtain ⟨F, hc, t1, t2, t3⟩ := T
    obtain ⟨o1, o2, o3, o4, o5, o6, o7⟩ := Pg_fx F ho
    obtain ⟨b1, b2, b3, b4, b5, b6, b7⟩ := Pg_fx F hb
    have s1 : mI M 602 o 0 = nI sm := by rw [t3, if_neg (fun q => hbo q.1)]; exact hs
    have s2 : mI M 602 b 0 = nI i := by rw [t3, if_pos ⟨rfl, rfl⟩]
    have s3 : mI M 1029007 (o + 1) i = mI M1 1029007 (o + 1) i := by rw [t1, if_neg (fun q => hbo1 q.1)]
    have s4 : mI M 1029015 (o + 2) i = mI M1 1029015 (o + 2) i := by rw [t2, if_neg (fun q => hbo2 q.1)]
    refine runL 2 (tbk_X6_takeOver (csj_n (Jok 2 d))) 60 ?_
    simp -implicitDefEqProofs +decide only [go_0, pI_i, pL_i, pA_i, pA_s, pV_i, oI_i, oL_i, oV_i, lk, rm1, rm2, isR_rf, isR_ref, isR_null, rfo_rf, rfo_ref, rfo_null, rf_some, rf_none, rf_eq_null, rf_eq_ref, ↓nl_n, ↓nl_r, nl_rf, cat_i, cat_l, cat_r, cat_n, cat_rf, lv_args, pN_0, pN_s, tr_ic, tr_lc, tr_null, tr_iload, tr_lload, tr_aload, tr_istore, tr_lstore, tr_astore, tr_iinc, tr_iadd, tr_isub, tr_imul, tr_iand, tr_irem, tr_ladd, tr_lsub, tr_land, tr_lor, tr_lshl, tr_ldiv, tr_lrem, tr_i2l, tr_l2i, tr_i2b, tr_lcmp, tr_dup, tr_dup2, tr_pop, tr_goto, tr_ifeq, tr_ifne, tr_iflt, tr_ifge, tr_ifgt, tr_ifle, tr_iceq, tr_icne, tr_iclt, tr_icge, tr_icgt, tr_icle, tr_ifnull, tr_ifnonnull, tr_sw, tr_getI, tr_getL, tr_getR, tr_putI, tr_putZ, tr_putL, tr_putR, tr_iald, tr_lald, tr_bald, tr_aald, tr_alen, tr_iast, tr_bast, tr_last, tr_aast, tr_newa, tr_anew, tr_new, tr_callV, tr_callS, tr_callI, tr_obj, tr_iret, tr_zret, tr_lret, tr_aret, tr_ret, Nat.reduceAdd, Nat.reduceMul, Nat.reduceDiv, Nat.reduceEqDiff, Nat.reduceLT, Nat.reduceLeDiff, ↓reduceIte, true_and, and_true, true_or, or_true, List.length_nil, List.length_cons, List.nil_append, List.cons_append, Option.toList_some, Option.toList_none, and_self, or_false, false_or, false_and, and_false, imp_self, forall_const, Nat.one_ne_zero, Nat.succ_ne_self, not_true_eq_false, not_false_eq_true, reduceCtorEq, Nat.add_eq_right, Nat.add_eq_left, Nat.add_left_cancel_iff, Nat.zero_add, Int32.reduceLT, Int32.reduceLE, Int32.reduceAdd, Int32.reduceSub, Int32.reduceMul, lg_cmp_ge, lg_cmp_le, lg_cmp_gt, lg_cmp_lt, lg_cmp_eq, i10, i01, eq_self, false_implies, true_implies, implies_true, mK_sI, mK_sL, mK_sR, mK_nw, mN_sI, mN_sL, mN_sR, mN_nw, mI_sI, mI_sL, mI_sR, mI_nw, mL_sI, mL_sL, mL_sR, mL_nw, mR_sI, mR_sL, mR_sR, mR_nw, mS_sI, mS_sL, mS_sR, mS_nw, mU_sI, mU_sL, mU_sR, mU_nw, go_1, csj, inl, lgn, lgc, J_X6_add, a_X6_add_0, a_X6_add_1, a_X6_add_4, a_X6_add_6, a_X6_add_9, a_X6_add_10, a_X6_add_11, a_X6_add_12, a_X6_add_15, a_X6_add_16, a_X6_add_19, a_X6_add_20, a_X6_add_21, a_X6_add_22, a_X6_add_25, a_X6_add_26, a_X6_add_29, a_X6_add_30, a_X6_add_31, a_X6_add_32, a_X6_add_33, a_X6_add_36, a_X6_add_37, a_X6_add_38, a_X6_add_41, a_X6_add_42, o1, o2, o3, o4, o5, o6, o7, b1, b2, b3, b4, b5, b6, b7, s1, s2, s3, s4, nI_nge (show i < sm by omega) (show sm < 2 ^ 31 by omega), nI_clamp (show i < 2 ^ 31 by omega), vp_in_nI (show i < 10 by omega) (by decide), nI_ltL (n := 10) (L := 10) rfl (show i < 2 ^ 31 by omega) (by decide), show i < 10 by omega, ← nI_succ, a_X6_takeOver_0, a_X6_takeOver_1, a_X6_takeOver_2, a_X6_takeOver_3, a_X6_takeOver_4, a_X6_takeOver_7, a_X6_takeOver_10, a_X6_takeOver_11, a_X6_takeOver_12, a_X6_takeOver_15, a_X6_takeOver_16, a_X6_takeOver_17, a_X6_takeOver_18, a_X6_takeOver_21, a_X6_takeOver_22, a_X6_takeOver_23, a_X6_takeOver_26, a_X6_takeOver_27, a_X6_takeOver_30, a_X6_takeOver_33]
    refine wp_sub ?_ (ih (i + 1) _ (by omega) ⟨((F.sI (k := 1029007) (a := b + 1) (i := i) (v := mI M1 1029007 (o + 1) i) (by decide)).sI (k := 1029015) (a := b + 2) (i := i) (v := mI M1 1029015 (o + 2) i) (by decide)).sI (k := 602) (a := b) (i := 0) (v := nI (i + 1)) (by decide), cl_sI (cl_sI (cl_sI hc (by rw [b3]; decide)) (by rw [mK_sI, b6]; decide)) (by rw [mK_sI, mK_sI, b1]; decide), fun q j => ?_, fun q j => ?_, fun q j => ?_⟩)
    · intro q hq
      simp only [List.mem_cons, List.not_mem_nil, or_false] at hq ⊢
      rcases hq with rfl | rfl | rfl <;> simp
    · simp only [mI_sI, Nat.reduceEqDiff, false_and, if_false, true_and, t1]
      by_cases e1 : q = b + 1
      · by_cases e2 : j = i
        · rw [if_pos ⟨e1, e2⟩, if_pos ⟨e1, by omega⟩, e2]
        · rw [if_neg (fun z => e2 z.2)]
          by_cases e3 : j < i
          · rw [if_pos ⟨e1, e3⟩, if_pos ⟨e1, by omega⟩]
          · rw [if_neg (fun z => e3 z.2), if_neg (fun z => e3 (by omega))]
      · rw [if_neg (fun z => e1 z.1), if_neg (fun z => e1 z.1), if_neg (fun z => e1 z.1)]
    · simp only [mI_sI, Nat.reduceEqDiff, false_and, if_false, true_and, t2]
      by_cases e1 : q = b + 2
      · by_cases e2 : j = i
        · rw [if_pos ⟨e1, e2⟩, if_pos ⟨e1, by omega⟩, e2]
        · rw [if_neg (fun z => e2 z.2)]
          by_cases e3 : j < i
          · rw [if_pos ⟨e1, e3⟩, if_pos ⟨e1, by omega⟩]
          · rw [if_neg (fun z => e3 z.2), if_neg (fun z => e3 (by omega))]
      · rw [if_neg (fun z => e1 z.1), if_neg (fun z => e1 z.1), if_neg (fun z => e1 z.1)]
    · simp only [mI_sI, Nat.reduceEqDiff, false_and, if_false, true_and, t3]
      by_cases e1 : q = b ∧ j = 0
      · rw [if_pos e1, if_pos e1]
      · rw [if_neg e1, if_neg e1, if_neg e1]
def sp_take (b o sm : Nat) : Sp := fun av M Q => match av with
  | [.ref b', .ref o'] => b' = b ∧ o' = o ∧ Pg M b ∧ Pg M o ∧ ¬ o = b ∧ mI M 602 o 0 = nI sm ∧ sm ≤ 10 ∧ mI M 602 b 0 = 0 ∧ Cln M ∧ ∀ M', Took M b o sm M' → Q M' none
  | _ => False
set_option maxRecDepth 20000 in
theorem c_take {D : DD} {d b o sm : Nat} : ∀ av M Q, sp_take b o sm av M Q → Call D (d + 3) mi_X6_takeOver av M Q := by
  intro av M Q hz
  match av, hz with
  | [.ref b', .ref o'], hz =>
    obtain ⟨rfl, rfl, hb, ho, hbo, hs, hsm, h0, hc, hq⟩ := hz
    refine call_of (by decide) (Nat.le_of_ble_eq_true rfl) ?_
    refine runL 2 (tbk_X6_takeOver (csj_n (Jok 2 d))) 40 ?_
    simp -implicitDefEqProofs +decide only [go_0, pI_i, pL_i, pA_i, pA_s, pV_i, oI_i, oL_i, oV_i, lk, rm1, rm2, isR_rf, isR_ref, isR_null, rfo_rf, rfo_ref, rfo_null, rf_some, rf_none, rf_eq_null, rf_eq_ref, ↓nl_n, ↓nl_r, nl_rf, cat_i, cat_l, cat_r, cat_n, cat_rf, lv_args, pN_0, pN_s, tr_ic, tr_lc, tr_null, tr_iload, tr_lload, tr_aload, tr_istore, tr_lstore, tr_astore, tr_iinc, tr_iadd, tr_isub, tr_imul, tr_iand, tr_irem, tr_ladd, tr_lsub, tr_land, tr_lor, tr_lshl, tr_ldiv, tr_lrem, tr_i2l, tr_l2i, tr_i2b, tr_lcmp, tr_dup, tr_dup2, tr_pop, tr_goto, tr_ifeq, tr_ifne, tr_iflt, tr_ifge, tr_ifgt, tr_ifle, tr_iceq, tr_icne, tr_iclt, tr_icge, tr_icgt, tr_icle, tr_ifnull, tr_ifnonnull, tr_sw, tr_getI, tr_getL, tr_getR, tr_putI, tr_putZ, tr_putL, tr_putR, tr_iald, tr_lald, tr_bald, tr_aald, tr_alen, tr_iast, tr_bast, tr_last, tr_aast, tr_newa, tr_anew, tr_new, tr_callV, tr_callS, tr_callI, tr_obj, tr_iret, tr_zret, tr_lret, tr_aret, tr_ret, Nat.reduceAdd, Nat.reduceMul, Nat.reduceDiv, Nat.reduceEqDiff, Nat.reduceLT, Nat.reduceLeDiff, ↓reduceIte, true_and, and_true, true_or, or_true, List.length_nil, List.length_cons, List.nil_append, List.cons_append, Option.toList_some, Option.toList_none, and_self, or_false, false_or, false_and, and_false, imp_self, forall_const, Nat.one_ne_zero, Nat.succ_ne_self, not_true_eq_false, not_false_eq_true, reduceCtorEq, Nat.add_eq_right, Nat.add_eq_left, Nat.add_left_cancel_iff, Nat.zero_add, Int32.reduceLT, Int32.reduceLE, Int32.reduceAdd, Int32.reduceSub, Int32.reduceMul, lg_cmp_ge, lg_cmp_le, lg_cmp_gt, lg_cmp_lt, lg_cmp_eq, i10, i01, eq_self, false_implies, true_implies, implies_true, mK_sI, mK_sL, mK_sR, mK_nw, mN_sI, mN_sL, mN_sR, mN_nw, mI_sI, mI_sL, mI_sR, mI_nw, mL_sI, mL_sL, mL_sR, mL_nw, mR_sI, mR_sL, mR_sR, mR_nw, mS_sI, mS_sL, mS_sR, mS_nw, mU_sI, mU_sL, mU_sR, mU_nw, go_1, csj, inl, lgn, lgc, hb.1, a_X6_takeOver_0, a_X6_takeOver_1, a_X6_takeOver_2, a_X6_takeOver_3, a_X6_takeOver_4, a_X6_takeOver_7, a_X6_takeOver_10, a_X6_takeOver_11, a_X6_takeOver_12, a_X6_takeOver_15, a_X6_takeOver_16, a_X6_takeOver_17, a_X6_takeOver_18, a_X6_takeOver_21, a_X6_takeOver_22, a_X6_takeOver_23, a_X6_takeOver_26, a_X6_takeOver_27, a_X6_takeOver_30, a_X6_takeOver_33]
    have := l_take (D := D) (d := d) (M0 := M) (M1 := M) hb ho hbo (by omega) (by omega) hs hsm hq sm 0 M (by omega) ⟨Fx.rf, hc, fun q j => by rw [if_neg (fun z => by omega)], fun q j => by rw [if_neg (fun z => by omega)], fun q j => by
      by_cases e : q = b' ∧ j = 0
      · rw [if_pos e, e.1, e.2, h0]; rfl
      · rw [if_neg e]⟩
    refine wp_sub ?_ this
    intro q hq
    simp only [List.mem_cons, List.not_mem_nil, or_false] at hq ⊢
    rcases hq with rfl | rfl | rfl <;> simp [nI_0]
