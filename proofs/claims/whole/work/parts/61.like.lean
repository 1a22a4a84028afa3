/-! A comer like another -/
theorem lkC_k {c : Core} {l j : Nat} {f : Nat} (hf : f ∉ [10, 11, 12, 14, 15, 16]) (i : Nat) : kI (lkC c l j) f i = kI (lstC c l (kI c 6 (j)) (kI c 7 (j)) (kI c 8 (j)) (kI c 9 (j))) f i ∧ kL (lkC c l j) f i = kL (lstC c l (kI c 6 (j)) (kI c 7 (j)) (kI c 8 (j)) (kI c 9 (j))) f i := by
  simp only [List.mem_cons, List.not_mem_nil, or_false, not_or] at hf
  obtain ⟨h1, h2, h3, h4, h5, h6⟩ := hf
  unfold lkC
  simp only [kI_uI, kI_uL, kI_wcI, kL_uI, kL_uL, kL_wcI, h1, h2, h3, h4, h5, h6, false_and, if_false, and_self]
theorem lkC_n {c : Core} {l j : Nat} : kL (lkC c l j) 10 l = (kL c 10 (j)) ∧ kL (lkC c l j) 11 l = (kL c 11 (j)) ∧ kI (lkC c l j) 12 l = (kI c 12 (j)) ∧ kI (lkC c l j) 14 l = (kI c 14 (j)) := by
  unfold lkC
  simp only [kI_uI, kI_uL, kI_wcI, kL_uI, kL_uL, kL_wcI, Nat.reduceEqDiff, false_and, if_false, and_self, if_true]
theorem lkC_o {c : Core} {l j : Nat} {i : Nat} (hi : ¬ i = l) : kI (lkC c l j) 6 i = kI c 6 i ∧ kI (lkC c l j) 7 i = kI c 7 i ∧ kI (lkC c l j) 8 i = kI c 8 i ∧ kI (lkC c l j) 9 i = kI c 9 i ∧ kL (lkC c l j) 10 i = kL c 10 i ∧ kL (lkC c l j) 11 i = kL c 11 i ∧ kI (lkC c l j) 12 i = kI c 12 i ∧ kI (lkC c l j) 13 i = kI c 13 i ∧ kI (lkC c l j) 14 i = kI c 14 i ∧ kI (lkC c l j) 17 i = kI c 17 i ∧ kI (lkC c l j) 18 i = kI c 18 i := by
  unfold lkC lstC
  simp only [kI_uI, kI_uL, kI_wcI, kL_uI, kL_uL, kL_wcI, hi, Nat.reduceEqDiff, and_false, false_and, if_false, and_self]
theorem lkC_p {c : Core} {l j k : Nat} : kI (lkC c l j) 15 k = cpy10 (kI c 15) l j 10 k ∧ kI (lkC c l j) 16 k = cpy10 (kI c 16) l j 10 k := by
  unfold lkC
  simp only [kI_wcI, Nat.reduceEqDiff, if_false, if_true, and_self]
theorem cpy_old {f : Nat → Int32} {l j i q : Nat} (h : i < l) (hq : q < 10) : cpy10 f l j 10 (10 * i + q) = f (10 * i + q) := by
  unfold cpy10; rw [if_neg (by omega)]
theorem cpy_new {f : Nat → Int32} {l j q : Nat} (hq : q < 10) : cpy10 f l j 10 (10 * l + q) = f (10 * j + q) := by
  unfold cpy10; rw [if_pos (by omega)]; congr 1; omega
set_option maxRecDepth 20000 in
theorem c_like {D : DD} {d : Nat} {M : Mem} {x : Nat} {c : Core} {nk : Nat} {ka dp : Nat → Nat} {ns nl : Nat} {la : Nat → Nat} {ch : Nat → List Nat} {S0 U0 j : Nat} {Q : Qt} (R : R0 M x c nk ka dp ns nl la ch S0 U0) (hj : j < nl) (hnl : nl < 200) (hs : kI c 9 j = -4 ∨ opn c ns (kI c 9 j))
    (hq : ∀ M' ch', R0 M' x (lkC c nl j) nk ka dp ns (nl + 1) (la1 la nl (mS M)) ch' S0 U0 → (∀ q, q < 3 → (ch' q).filter (fun l => decide (l < nl)) = ch q) → Fz [509, 500, 502, 503, 504, 508, 1029007, 1029015, 602, 203, 204] [506, 507] [600, 601, 505, 501, 6006008, 512, 6006016] M M' → Q M' (some (.int 0))) : Call D (d + 10) mi_X2_seatLike [.ref (x + 4), .int (nI j)] M Q := by
  have S := r0_sh R
  have K := r0_k R
  have L := r0_l R
  have C := r0_s R
  have zc := rz_cl (r0_z R)
  have nk40 := rk_le K
  have cm := rl_come L
  have I := rl_i L j hj
  have i1 := li_k I
  obtain ⟨k, k1, k2, k3⟩ := li_kind I
  obtain ⟨p, p1, p2, p3⟩ := li_phase I
  have i2 : (mI M 503 (la j) 0) = kI c 8 j := li_rank I
  have i3 : (mI M 504 (la j) 0) = kI c 9 j := li_scene I
  have i4 : (mL M 506 (la j) 0) = kL c 10 j := li_low I
  have i5 : (mL M 507 (la j) 0) = kL c 11 j := li_high I
  have i6 : (mI M 508 (la j) 0) = kI c 12 j := li_once I
  have i7 := li_prog I
  obtain ⟨sm, s1, s2, s3, s4⟩ := li_size I
  have q1 := ki_k (rk_i K k k1)
  have xlt : x + 48 < mS M := cl_lt zc (by have := (sh_cue S (show 11 < 12 by omega)).2.1; rw [show x + 37 + 11 = x + 48 by omega] at this; rw [this]; decide)
  have alt : ∀ l, l < nl → la l + 3 < mS M := fun l hl => cl_lt zc (by rw [li_nk (rl_i L l hl)]; decide)
  have aj := alt j hj
  have hsc : kI c 9 j = -4 ∨ inN (kI c 9 j) ns := li_sc I
  have hkN : mK (nw M 6 0 13) (mS M) = 6 := by rw [mK_nw, if_pos rfl]
  have hsN : mS (nw M 6 0 13) = mS M + 1 := rfl
  obtain ⟨hc1, F1⟩ := linit_cl (n := nI nl) (kd := ka k) (p := nI p) (r := kI c 8 j) (s := kI c 9 j) (cl_nw (c := 6) (n := 0) (u := 13) zc) hkN hsN
  have F1a := (Fz.nw (ki := [509, 500, 502, 503, 504]) (kl := [506, 507]) (kr := [600, 601, 505, 501]) (c := 6) (n := 0) (u := 13) zc).tr F1
  have F1' : Fz [509, 500, 502, 503, 504, 508, 1029007, 1029015, 602, 203, 204] [506, 507] [600, 601, 505, 501, 6006008, 512, 6006016] M (linit (nw M 6 0 13) (mS M) (nI nl) (ka k) (nI p) (kI c 8 j) (kI c 9 j)) := F1a.mono (by decide) (by decide) (by decide)
  have S1 := SH_fz F1' (by decide) (by decide) S
  have IJ := LJ_init (x := x) (c := c) (nk := nk) (ka := ka) (ns := ns) (l := nl) (k := k) (p := p) (r := kI c 8 j) (s := kI c 9 j) (cl_nw (c := 6) (n := 0) (u := 13) zc) hkN hsN (fun kq i hr => (zc (mS M) (Nat.le_refl _)).2 kq i hr) k1 p1 hsc
  obtain ⟨rd1, rd2, rd3⟩ := linit_rd (M := nw M 6 0 13) (a := mS M) (n := nI nl) (kd := ka k) (p := nI p) (r := kI c 8 j) (s := kI c 9 j)
  have ajl : la j < mS M := by omega
  have ajn : ¬ la j = mS M := by omega
  have kj1 : mK (linit (nw M 6 0 13) (mS M) (nI nl) (ka k) (nI p) (kI c 8 j) (kI c 9 j)) (la j) = 6 := by rw [(F1'.1 (la j) (by rw [i1]; decide)).1]; exact i1
  have f4 : mL (linit (nw M 6 0 13) (mS M) (nI nl) (ka k) (nI p) (kI c 8 j) (kI c 9 j)) 506 (la j) 0 = kL c 10 j := (rd2 _ _ _ ajl).trans i4
  have f5 : mL (linit (nw M 6 0 13) (mS M) (nI nl) (ka k) (nI p) (kI c 8 j) (kI c 9 j)) 507 (la j) 0 = kL c 11 j := (rd2 _ _ _ ajl).trans i5
  have f6 : mI (linit (nw M 6 0 13) (mS M) (nI nl) (ka k) (nI p) (kI c 8 j) (kI c 9 j)) 508 (la j) 0 = kI c 12 j := (rd1 _ _ _ ajl).trans i6
  have f7 : mR (linit (nw M 6 0 13) (mS M) (nI nl) (ka k) (nI p) (kI c 8 j) (kI c 9 j)) 505 (la j) 0 = some (la j + 1) := (rd3 _ _ _ ajl).trans i7
  have g1 : mK (linit (nw M 6 0 13) (mS M) (nI nl) (ka k) (nI p) (kI c 8 j) (kI c 9 j)) (mS M) = 6 := lj_k IJ
  have g2 : mR (linit (nw M 6 0 13) (mS M) (nI nl) (ka k) (nI p) (kI c 8 j) (kI c 9 j)) 505 (mS M) 0 = some (mS M + 1) := lj_prog IJ
  have on := li_on I
  have pg1 : Pg (linit (nw M 6 0 13) (mS M) (nI nl) (ka k) (nI p) (kI c 8 j) (kI c 9 j)) (mS M + 1) := ⟨lj_pk IJ, lj_ops IJ, lj_ok IJ, lj_on10 IJ, lj_nums IJ, lj_nk IJ, lj_nn10 IJ⟩
  have pgn : Pg (sI (sL (sL (linit (nw M 6 0 13) (mS M) (nI nl) (ka k) (nI p) (kI c 8 j) (kI c 9 j)) 506 (mS M) 0 (kL c 10 j)) 507 (mS M) 0 (kL c 11 j)) 508 (mS M) 0 (kI c 12 j)) (mS M + 1) := pg1
  have pgo1 : Pg (linit (nw M 6 0 13) (mS M) (nI nl) (ka k) (nI p) (kI c 8 j) (kI c 9 j)) (la j + 1) := by
    have z1 := F1'.1 (la j + 1) (by rw [li_pk I]; decide)
    have z2 := F1'.1 (la j + 2) (by rw [li_ok I]; decide)
    have z3 := F1'.1 (la j + 3) (by rw [li_nk I]; decide)
    have z4 := li_ops I
    have z5 := li_nums I
    exact ⟨z1.1.trans (li_pk I), (rd3 _ _ _ (show la j + 1 < mS M by omega)).trans z4, z2.1.trans (li_ok I), z2.2.trans (li_on10 I), (rd3 _ _ _ (show la j + 1 < mS M by omega)).trans z5, z3.1.trans (li_nk I), z3.2.trans (li_nn10 I)⟩
  have pgo : Pg (sI (sL (sL (linit (nw M 6 0 13) (mS M) (nI nl) (ka k) (nI p) (kI c 8 j) (kI c 9 j)) 506 (mS M) 0 (kL c 10 j)) 507 (mS M) 0 (kL c 11 j)) 508 (mS M) 0 (kI c 12 j)) (la j + 1) := pgo1
  have szo : mI (sI (sL (sL (linit (nw M 6 0 13) (mS M) (nI nl) (ka k) (nI p) (kI c 8 j) (kI c 9 j)) 506 (mS M) 0 (kL c 10 j)) 507 (mS M) 0 (kL c 11 j)) 508 (mS M) 0 (kI c 12 j)) 602 (la j + 1) 0 = nI sm := (rd1 _ _ _ (show la j + 1 < mS M by omega)).trans s2
  have szn : mI (sI (sL (sL (linit (nw M 6 0 13) (mS M) (nI nl) (ka k) (nI p) (kI c 8 j) (kI c 9 j)) 506 (mS M) 0 (kL c 10 j)) 507 (mS M) 0 (kL c 11 j)) 508 (mS M) 0 (kI c 12 j)) 602 (mS M + 1) 0 = 0 := by
    obtain ⟨sm', t1, t2, t3, _⟩ := lj_size IJ
    have : sm' = 0 := (nI_eq (by omega) (by omega)).mp (t3.symm.trans (by unfold lstC; simp only [kI_uI, kI_uL, Nat.reduceEqDiff, false_and, if_false, and_self, if_true]; rfl))
    rw [this] at t2
    exact t2
  have hc2 : Cln (sI (sL (sL (linit (nw M 6 0 13) (mS M) (nI nl) (ka k) (nI p) (kI c 8 j) (kI c 9 j)) 506 (mS M) 0 (kL c 10 j)) 507 (mS M) 0 (kL c 11 j)) 508 (mS M) 0 (kI c 12 j)) := cl_sI (cl_sL (cl_sL hc1 (by rw [g1]; decide)) (by rw [mK_sL, g1]; decide)) (by rw [mK_sL, mK_sL, g1]; decide)
  have F12 : Fx [509, 500, 502, 503, 504, 508, 1029007, 1029015, 602, 203, 204] [506, 507] [600, 601, 505, 501, 6006008, 512, 6006016] (linit (nw M 6 0 13) (mS M) (nI nl) (ka k) (nI p) (kI c 8 j) (kI c 9 j)) (sI (sL (sL (linit (nw M 6 0 13) (mS M) (nI nl) (ka k) (nI p) (kI c 8 j) (kI c 9 j)) 506 (mS M) 0 (kL c 10 j)) 507 (mS M) 0 (kL c 11 j)) 508 (mS M) 0 (kI c 12 j)) := ((Fx.rf.sL (by decide)).sL (by decide)).sI (by decide)
  have F12b : Fx [508] [506, 507] [] (linit (nw M 6 0 13) (mS M) (nI nl) (ka k) (nI p) (kI c 8 j) (kI c 9 j)) (sI (sL (sL (linit (nw M 6 0 13) (mS M) (nI nl) (ka k) (nI p) (kI c 8 j) (kI c 9 j)) 506 (mS M) 0 (kL c 10 j)) 507 (mS M) 0 (kL c 11 j)) 508 (mS M) 0 (kI c 12 j)) := ((Fx.rf.sL (by decide)).sL (by decide)).sI (by decide)
  have seat : ∀ M3, Took (sI (sL (sL (linit (nw M 6 0 13) (mS M) (nI nl) (ka k) (nI p) (kI c 8 j) (kI c 9 j)) 506 (mS M) 0 (kL c 10 j)) 507 (mS M) 0 (kL c 11 j)) 508 (mS M) 0 (kI c 12 j)) (mS M + 1) (la j + 1) sm M3 → SH M3 x ∧ (∀ Q' : Qt, (∀ M', Q M' (some (.int 0)) → Q' M' none) → Call D (d + 9) mi_X2_seat [.ref (x + 4), .ref (mS M)] M3 Q') := by
    intro M3 T
    obtain ⟨T0, hc3, T1, T2, T3⟩ := T
    have F23 : Fx [509, 500, 502, 503, 504, 508, 1029007, 1029015, 602, 203, 204] [506, 507] [600, 601, 505, 501, 6006008, 512, 6006016] (sI (sL (sL (linit (nw M 6 0 13) (mS M) (nI nl) (ka k) (nI p) (kI c 8 j) (kI c 9 j)) 506 (mS M) 0 (kL c 10 j)) 507 (mS M) 0 (kL c 11 j)) 508 (mS M) 0 (kI c 12 j)) M3 := T0.mono (by decide) (by decide) (by decide)
    have F13 := F12.tr F23
    have Fa := F1'.tr (Fz.of F13)
    have S3 := SH_fz Fa (by decide) (by decide) S
    have K3 := RK_fz Fa (by decide) (by decide) (by decide) K
    have cm3 : (mI M3 203 (x + 4) 0) = nI nl := by
      rw [T0.i 203 (by decide)]
      show (mI (linit (nw M 6 0 13) (mS M) (nI nl) (ka k) (nI p) (kI c 8 j) (kI c 9 j)) 203 (x + 4) 0) = nI nl
      rw [F1a.i 203 (by decide)]; exact cm
    have hM : ∀ kq q i, q < mS M → (mI M3 kq q i = mI M kq q i) ∧ (mL M3 kq q i = mL M kq q i) ∧ (mR M3 kq q i = mR M kq q i) := fun kq q i hlt => by
      have ne1 : ¬ q = mS M := by omega
      have a1 : mI (sI (sL (sL (linit (nw M 6 0 13) (mS M) (nI nl) (ka k) (nI p) (kI c 8 j) (kI c 9 j)) 506 (mS M) 0 (kL c 10 j)) 507 (mS M) 0 (kL c 11 j)) 508 (mS M) 0 (kI c 12 j)) kq q i = mI M kq q i := by
        simp only [mK_sI, mK_sL, mK_sR, mK_nw, mN_sI, mN_sL, mN_sR, mN_nw, mI_sI, mI_sL, mI_sR, mI_nw, mL_sI, mL_sL, mL_sR, mL_nw, mR_sI, mR_sL, mR_sR, mR_nw, mS_sI, mS_sL, mS_sR, mS_nw, mU_sI, mU_sL, mU_sR, mU_nw, ne1, false_and, and_false, if_false]; exact rd1 kq q i hlt
      have a2 : mL (sI (sL (sL (linit (nw M 6 0 13) (mS M) (nI nl) (ka k) (nI p) (kI c 8 j) (kI c 9 j)) 506 (mS M) 0 (kL c 10 j)) 507 (mS M) 0 (kL c 11 j)) 508 (mS M) 0 (kI c 12 j)) kq q i = mL M kq q i := by
        simp only [mK_sI, mK_sL, mK_sR, mK_nw, mN_sI, mN_sL, mN_sR, mN_nw, mI_sI, mI_sL, mI_sR, mI_nw, mL_sI, mL_sL, mL_sR, mL_nw, mR_sI, mR_sL, mR_sR, mR_nw, mS_sI, mS_sL, mS_sR, mS_nw, mU_sI, mU_sL, mU_sR, mU_nw, ne1, false_and, and_false, if_false]; exact rd2 kq q i hlt
      have a3 : mR (sI (sL (sL (linit (nw M 6 0 13) (mS M) (nI nl) (ka k) (nI p) (kI c 8 j) (kI c 9 j)) 506 (mS M) 0 (kL c 10 j)) 507 (mS M) 0 (kL c 11 j)) 508 (mS M) 0 (kI c 12 j)) kq q i = mR M kq q i := rd3 kq q i hlt
      refine ⟨?_, ?_, ?_⟩
      · rw [← a1]
        by_cases e1 : kq = 1029007
        · rw [e1, T1, if_neg (fun z => by have := z.1; omega)]
        · by_cases e2 : kq = 1029015
          · rw [e2, T2, if_neg (fun z => by have := z.1; omega)]
          · by_cases e3 : kq = 602
            · rw [e3, T3, if_neg (fun z => by have := z.1; omega)]
            · rw [T0.2.2.2.2.1 kq (by simp only [List.mem_cons, List.not_mem_nil, or_false, not_or]; exact ⟨e1, e2, e3⟩)]
      · rw [← a2, T0.2.2.2.2.2.1 kq List.not_mem_nil]
      · rw [← a3, T0.2.2.2.2.2.2 kq List.not_mem_nil]
    have hl3 : ∀ l, l < nl → LI M3 x (lkC c nl j) nk ka ns (la l) l := fun l hl => by
      obtain ⟨o6, o7, o8, o9, o10, o11, o12, o13, o14, o17, o18⟩ := lkC_o (c := c) (j := j) (show ¬ l = nl by omega)
      refine LI_cc o6 o7 o8 o9 o10 o11 o12 o13 o14 o17 o18 (fun q hq' => by rw [lkC_p.1, cpy_old hl hq']) (fun q hq' => by rw [lkC_p.2, cpy_old hl hq']) (LI_far (A := mS M) (rl_i L l hl) Fa.1 ?_ (alt l hl) (fun kq q i h => (hM kq q i h).1) (fun kq q i h => (hM kq q i h).2.1) (fun kq q _ h => (hM kq q 0 h).2.2))
      exact (hM _ _ _ (by omega)).2.2
    have C3 : RC M3 x (lkC c nl j) dp nl la ch := RC_cc (c := c) (fun l hl => by
      obtain ⟨o6, o7, o8, -⟩ := lkC_o (c := c) (j := j) (show ¬ l = nl by omega)
      exact ⟨o6, o7, o8⟩) (by
        have F1b := F1a.tr (Fz.of (((Fx.rf (ki := [509, 500, 502, 503, 504]) (kl := [506, 507]) (kr := [600, 601, 505, 501]) (M := (linit (nw M 6 0 13) (mS M) (nI nl) (ka k) (nI p) (kI c 8 j) (kI c 9 j))))))) 
        rw [RC_fz (Fz.of T0) (by decide)]
        show RC (linit (nw M 6 0 13) (mS M) (nI nl) (ka k) (nI p) (kI c 8 j) (kI c 9 j)) x c dp nl la ch
        rw [RC_fz F1a (by decide)]; exact r0_c R)
    have Sc3 : RS M3 x (lkC c nl j) ns nl := RS_cc (c := c) (by rw [(lkC_k (by decide) _).1]; exact (lstC_k (by decide) _).1) (fun i _ => by rw [(lkC_k (by decide) _).1]; exact (lstC_k (by decide) _).1) (fun l hl => (lkC_o (show ¬ l = nl by omega)).2.2.2.2.2.2.2.1) (by
        rw [RS_fz (Fz.of T0) (by decide)]
        show RS (linit (nw M 6 0 13) (mS M) (nI nl) (ka k) (nI p) (kI c 8 j) (kI c 9 j)) x c ns nl
        rw [RS_fz F1a (by decide)]; exact C)
    have hc5 : kI (lkC c nl j) 5 0 = nI (nl + 1) := by rw [(lkC_k (by decide) _).1]; unfold lstC; simp only [kI_uI, kI_uL, Nat.reduceEqDiff, false_and, if_false, and_self, if_true]
    have hc13 : kI (lkC c nl j) 13 nl = 1 := by rw [(lkC_k (by decide) _).1]; unfold lstC; simp only [kI_uI, kI_uL, Nat.reduceEqDiff, false_and, if_false, and_self, if_true]
    have hc7 : kI (lkC c nl j) 7 nl = nI p := by rw [(lkC_k (by decide) _).1, ← p3]; unfold lstC; simp only [kI_uI, kI_uL, Nat.reduceEqDiff, false_and, if_false, and_self, if_true]
    have IJ3 : LJ M3 x (lkC c nl j) nk ka ns (mS M) nl := by
      have w : ∀ f, f ∉ [10, 11, 12, 14, 15, 16] → kI (lkC c nl j) f nl = kI (lstC c nl (nI k) (nI p) (kI c 8 j) (kI c 9 j)) f nl := fun f hf => by rw [(lkC_k hf _).1, k3, p3]
      have c6 := w 6 (by decide)
      have c7 := w 7 (by decide)
      have c8 := w 8 (by decide)
      have c9 := w 9 (by decide)
      have c13 := w 13 (by decide)
      have c17 := w 17 (by decide)
      have c18 := w 18 (by decide)
      obtain ⟨c10, c11, c12, c14⟩ := lkC_n (c := c) (l := nl) (j := j)
      have m0 : mK M3 = mK (linit (nw M 6 0 13) (mS M) (nI nl) (ka k) (nI p) (kI c 8 j) (kI c 9 j)) := T0.1
      have n0 : mN M3 = mN (linit (nw M 6 0 13) (mS M) (nI nl) (ka k) (nI p) (kI c 8 j) (kI c 9 j)) := T0.2.1
      have mi_ : ∀ kq, kq ∉ [1029007, 1029015, 602, 508] → mI M3 kq = mI (linit (nw M 6 0 13) (mS M) (nI nl) (ka k) (nI p) (kI c 8 j) (kI c 9 j)) kq := fun kq h => (T0.2.2.2.2.1 kq (fun q => h (by simp only [List.mem_cons, List.not_mem_nil, or_false] at q ⊢; omega))).trans (F12b.2.2.2.2.1 kq (fun q => h (by simp only [List.mem_cons, List.not_mem_nil, or_false] at q ⊢; omega)))
      have mi_2 : mI M3 508 = mI (sI (sL (sL (linit (nw M 6 0 13) (mS M) (nI nl) (ka k) (nI p) (kI c 8 j) (kI c 9 j)) 506 (mS M) 0 (kL c 10 j)) 507 (mS M) 0 (kL c 11 j)) 508 (mS M) 0 (kI c 12 j)) 508 := T0.2.2.2.2.1 _ (by decide)
      have ml_ : ∀ kq, mL M3 kq = mL (sI (sL (sL (linit (nw M 6 0 13) (mS M) (nI nl) (ka k) (nI p) (kI c 8 j) (kI c 9 j)) 506 (mS M) 0 (kL c 10 j)) 507 (mS M) 0 (kL c 11 j)) 508 (mS M) 0 (kI c 12 j)) kq := fun kq => T0.2.2.2.2.2.1 kq List.not_mem_nil
      have mr_ : ∀ kq, mR M3 kq = mR (linit (nw M 6 0 13) (mS M) (nI nl) (ka k) (nI p) (kI c 8 j) (kI c 9 j)) kq := fun kq => T0.2.2.2.2.2.2 kq List.not_mem_nil
      refine ⟨by rw [m0]; exact lj_k IJ, ?_, ?_, ?_, ?_, ?_, ?_, ?_, ?_, ?_, ?_, ?_, ?_, ?_, ?_, ?_, by rw [m0]; exact lj_pk IJ, ?_, by rw [m0]; exact lj_ok IJ, by rw [n0]; exact lj_on10 IJ, ?_, by rw [m0]; exact lj_nk IJ, by rw [n0]; exact lj_nn10 IJ, ?_⟩
      · rw [mi_ _ (by decide)]; exact lj_num IJ
      · rw [mr_, c6]; exact lj_kind IJ
      · rw [mi_ _ (by decide), c7]; exact lj_phase IJ
      · rw [mi_ _ (by decide), c8]; exact lj_rank IJ
      · rw [mi_ _ (by decide), c9]; exact lj_scene IJ
      · rw [c9]; exact lj_sc IJ
      · rw [ml_, c10]; simp only [mK_sI, mK_sL, mK_sR, mK_nw, mN_sI, mN_sL, mN_sR, mN_nw, mI_sI, mI_sL, mI_sR, mI_nw, mL_sI, mL_sL, mL_sR, mL_nw, mR_sI, mR_sL, mR_sR, mR_nw, mS_sI, mS_sL, mS_sR, mS_nw, mU_sI, mU_sL, mU_sR, mU_nw, Nat.reduceEqDiff, false_and, if_false, and_self, if_true]
      · rw [ml_, c11]; simp only [mK_sI, mK_sL, mK_sR, mK_nw, mN_sI, mN_sL, mN_sR, mN_nw, mI_sI, mI_sL, mI_sR, mI_nw, mL_sI, mL_sL, mL_sR, mL_nw, mR_sI, mR_sL, mR_sR, mR_nw, mS_sI, mS_sL, mS_sR, mS_nw, mU_sI, mU_sL, mU_sR, mU_nw, Nat.reduceEqDiff, false_and, if_false, and_self, if_true]
      · rw [mi_2, c12]; simp only [mK_sI, mK_sL, mK_sR, mK_nw, mN_sI, mN_sL, mN_sR, mN_nw, mI_sI, mI_sL, mI_sR, mI_nw, mL_sI, mL_sL, mL_sR, mL_nw, mR_sI, mR_sL, mR_sR, mR_nw, mS_sI, mS_sL, mS_sR, mS_nw, mU_sI, mU_sL, mU_sR, mU_nw, Nat.reduceEqDiff, false_and, if_false, and_self, if_true]
      · rw [c12]; exact on
      · rw [mi_ _ (by decide), c13]; exact lj_there IJ
      · rw [c13]; exact lj_th IJ
      · rw [mi_ _ (by decide), c17]; exact lj_told IJ
      · rw [mi_ _ (by decide), c18]; exact lj_tray IJ
      · rw [mr_]; exact lj_prog IJ
      · rw [mr_]; exact lj_ops IJ
      · rw [mr_]; exact lj_nums IJ
      · refine ⟨sm, s1, by rw [T3, if_pos ⟨rfl, rfl⟩], by rw [c14]; exact s3, fun q hq' => ?_⟩
        obtain ⟨t1, t2, t3⟩ := s4 q hq'
        rw [lkC_p.1, lkC_p.2, cpy_new (by omega), cpy_new (by omega), T1, T2, if_pos ⟨by omega, hq'⟩, if_pos ⟨by omega, hq'⟩]
        refine ⟨?_, ?_, t3⟩
        · rw [← t1]
          show mI (linit (nw M 6 0 13) (mS M) (nI nl) (ka k) (nI p) (kI c 8 j) (kI c 9 j)) 1029007 (la j + 1 + 1) q = _
          exact rd1 _ _ _ (by omega)
        · rw [← t2]
          show mI (linit (nw M 6 0 13) (mS M) (nI nl) (ka k) (nI p) (kI c 8 j) (kI c 9 j)) 1029015 (la j + 1 + 2) q = _
          exact rd1 _ _ _ (by omega)
    refine ⟨S3, fun Q' hQ => c_seat (d := d + 3) S3 hc3 hnl cm3 K3 IJ3 hl3 C3 Sc3 hc5 hc13 p1 hc7 (fun l hl => by have := alt l hl; omega) (fun M' PS => hQ M' ?_)⟩
    have sS : mS M3 = mS M + 4 := by rw [T0.2.2.1]; rfl
    have sU : mU M3 = mU M + 36 := by rw [T0.2.2.2.1]; rfl
    have e0 : ∀ f, f ∉ [5, 6, 7, 8, 9, 10, 11, 12, 13, 14, 17, 18] → f ∉ [10, 11, 12, 14, 15, 16] → ∀ i, kI (lkC c nl j) f i = kI c f i ∧ kL (lkC c nl j) f i = kL c f i := fun f h1 h2 i => by
      rw [(lkC_k h2 i).1, (lkC_k h2 i).2]; exact lstC_k h1 i
    obtain ⟨ch', R', hch⟩ := Rel_come R Fa (by decide) (by decide) (by decide) (by omega) (by omega) PS (fun i => ⟨(e0 0 (by decide) (by decide) i).1, (e0 1 (by decide) (by decide) i).1, (e0 2 (by decide) (by decide) i).2, (e0 19 (by decide) (by decide) i).1, (e0 20 (by decide) (by decide) i).1, (e0 21 (by decide) (by decide) i).2, (e0 52 (by decide) (by decide) i).1, (e0 53 (by decide) (by decide) i).1, (e0 54 (by decide) (by decide) i).2⟩)
    exact hq M' ch' R' hch (Fa.tr (Fz.of (PS.1.mono (by decide) (by decide) (by decide))))
  refine call_of (by decide) (Nat.le_of_ble_eq_true rfl) (run0 (tbk_X2_seatLike (csj_c mn_X5_init c_linit (csj_c (s := Call D (d + 9) mi_X2_seat) mn_X2_seat (fun _ _ _ h => h) (csj_c mn_X6_takeOver (c_take (b := mS M + 1) (o := la j + 1) (sm := sm)) (csj_c mn_X2_find (c_hfind (x := x) (c := c) (nk := nk) (ka := ka) (ns := ns) (nl := nl) (la := la)) (csj_c mn_X2_admits (c_admits (x := x) (c := c) (ns := ns) (nl := nl)) (csj_n (Jok 6 (d + 3))))))))) 120 ?_)
  simp -implicitDefEqProofs +decide only [go_0, pI_i, pL_i, pA_i, pA_s, pV_i, oI_i, oL_i, oV_i, lk, rm1, rm2, isR_rf, isR_ref, isR_null, rfo_rf, rfo_ref, rfo_null, rf_some, rf_none, rf_eq_null, rf_eq_ref, ↓nl_n, ↓nl_r, nl_rf, cat_i, cat_l, cat_r, cat_n, cat_rf, lv_args, pN_0, pN_s, tr_ic, tr_lc, tr_null, tr_iload, tr_lload, tr_aload, tr_istore, tr_lstore, tr_astore, tr_iinc, tr_iadd, tr_isub, tr_imul, tr_iand, tr_irem, tr_ladd, tr_lsub, tr_land, tr_lor, tr_lshl, tr_ldiv, tr_lrem, tr_i2l, tr_l2i, tr_i2b, tr_lcmp, tr_dup, tr_dup2, tr_pop, tr_goto, tr_ifeq, tr_ifne, tr_iflt, tr_ifge, tr_ifgt, tr_ifle, tr_iceq, tr_icne, tr_iclt, tr_icge, tr_icgt, tr_icle, tr_ifnull, tr_ifnonnull, tr_sw, tr_getI, tr_getL, tr_getR, tr_putI, tr_putZ, tr_putL, tr_putR, tr_iald, tr_lald, tr_bald, tr_aald, tr_alen, tr_iast, tr_bast, tr_last, tr_aast, tr_newa, tr_anew, tr_new, tr_callV, tr_callS, tr_callI, tr_obj, tr_iret, tr_zret, tr_lret, tr_aret, tr_ret, Nat.reduceAdd, Nat.reduceMul, Nat.reduceDiv, Nat.reduceEqDiff, Nat.reduceLT, Nat.reduceLeDiff, ↓reduceIte, true_and, and_true, true_or, or_true, List.length_nil, List.length_cons, List.nil_append, List.cons_append, Option.toList_some, Option.toList_none, and_self, or_false, false_or, false_and, and_false, imp_self, forall_const, Nat.one_ne_zero, Nat.succ_ne_self, not_true_eq_false, not_false_eq_true, reduceCtorEq, Nat.add_eq_right, Nat.add_eq_left, Nat.add_left_cancel_iff, Nat.zero_add, Int32.reduceLT, Int32.reduceLE, Int32.reduceAdd, Int32.reduceSub, Int32.reduceMul, lg_cmp_ge, lg_cmp_le, lg_cmp_gt, lg_cmp_lt, lg_cmp_eq, i10, i01, eq_self, false_implies, true_implies, implies_true, mK_sI, mK_sL, mK_sR, mK_nw, mN_sI, mN_sL, mN_sR, mN_nw, mI_sI, mI_sL, mI_sR, mI_nw, mL_sI, mL_sL, mL_sR, mL_nw, mR_sI, mR_sL, mR_sR, mR_nw, mS_sI, mS_sL, mS_sR, mS_nw, mU_sI, mU_sL, mU_sR, mU_nw, csj, inl, lgn, lgc, sp_hfind, sp_admits, sp_linit, sp_take, S, K, L, C, hs, J_X2_isFull, a_X2_isFull_0, a_X2_isFull_1, a_X2_isFull_4, a_X2_isFull_7, a_X2_isFull_10, a_X2_isFull_11, a_X2_isFull_14, a_X2_isFull_15, sh_x S, (sh_k2 S).1, (sh_k2 S).2, (sh_k4 S).1, (sh_k4 S).2, (sh_k9 S).1, (sh_k9 S).2, (sh_k12 S).1, (sh_k12 S).2, (sh_k1 S).1, (sh_k1 S).2, (sh_k17 S).1, (sh_k17 S).2, (sh_k3 S).1, (sh_k3 S).2, (sh_k5 S).1, (sh_k5 S).2, (sh_k6 S).1, (sh_k6 S).2, (sh_k7 S).1, (sh_k7 S).2, (sh_k8 S).1, (sh_k8 S).2, (sh_k10 S).1, (sh_k10 S).2, (sh_k11 S).1, (sh_k11 S).2, (sh_k13 S).1, (sh_k13 S).2, (sh_k14 S).1, (sh_k14 S).2, (sh_k15 S).1, (sh_k15 S).2, (sh_k16 S).1, (sh_k16 S).2, (sh_k18 S).1, (sh_k18 S).2, (sh_k19 S).1, (sh_k19 S).2, (sh_k20 S).1, (sh_k20 S).2, sh_Desk_teller S, sh_Desk_kinds S, sh_Desk_house S, sh_Desk_trays S, sh_Desk_acts S, sh_Desk_report S, sh_Kinds_all S, sh_House_all S, sh_House_firsts S, sh_House_open S, sh_Acts_of S, sh_Acts_values S, sh_Report_log S, sh_Report_failureOf S, sh_Report_failureBy S, sh_Report_failureAt S, sh_Teller_kinds S, sh_Teller_house S, sh_Teller_trays S, sh_Teller_acts S, sh_Teller_report S, sh_Teller_waiting S, sh_Teller_cues S, sh_Waiting_of S, sh_Waiting_values S, inN_nI hj (show nl < 2 ^ 31 by omega), nI_clamp (show j < 2 ^ 31 by omega), i1, i2, i3, i7, k2, p2, cm, nI_ltL (n := 200) (L := 200) rfl (show nl < 2 ^ 31 by omega) (by decide), hnl, show ¬ x = mS M by omega, show ¬ x + 4 = mS M by omega, ajn, q1, kj1, f4, f5, f6, f7, g1, g2, pgn, pgo, szo, szn, s1, hc2, show ¬ la j + 1 = mS M + 1 by omega, sh_x S1, (sh_k2 S1).1, (sh_k2 S1).2, (sh_k4 S1).1, (sh_k4 S1).2, (sh_k9 S1).1, (sh_k9 S1).2, (sh_k12 S1).1, (sh_k12 S1).2, (sh_k1 S1).1, (sh_k1 S1).2, (sh_k17 S1).1, (sh_k17 S1).2, (sh_k3 S1).1, (sh_k3 S1).2, (sh_k5 S1).1, (sh_k5 S1).2, (sh_k6 S1).1, (sh_k6 S1).2, (sh_k7 S1).1, (sh_k7 S1).2, (sh_k8 S1).1, (sh_k8 S1).2, (sh_k10 S1).1, (sh_k10 S1).2, (sh_k11 S1).1, (sh_k11 S1).2, (sh_k13 S1).1, (sh_k13 S1).2, (sh_k14 S1).1, (sh_k14 S1).2, (sh_k15 S1).1, (sh_k15 S1).2, (sh_k16 S1).1, (sh_k16 S1).2, (sh_k18 S1).1, (sh_k18 S1).2, (sh_k19 S1).1, (sh_k19 S1).2, (sh_k20 S1).1, (sh_k20 S1).2, sh_Desk_teller S1, sh_Desk_kinds S1, sh_Desk_house S1, sh_Desk_trays S1, sh_Desk_acts S1, sh_Desk_report S1, sh_Kinds_all S1, sh_House_all S1, sh_House_firsts S1, sh_House_open S1, sh_Acts_of S1, sh_Acts_values S1, sh_Report_log S1, sh_Report_failureOf S1, sh_Report_failureBy S1, sh_Report_failureAt S1, sh_Teller_kinds S1, sh_Teller_house S1, sh_Teller_trays S1, sh_Teller_acts S1, sh_Teller_report S1, sh_Teller_waiting S1, sh_Teller_cues S1, sh_Waiting_of S1, sh_Waiting_values S1, a_X2_seatLike_0, a_X2_seatLike_1, a_X2_seatLike_2, a_X2_seatLike_5, a_X2_seatLike_6, a_X2_seatLike_7, a_X2_seatLike_10, a_X2_seatLike_11, a_X2_seatLike_12, a_X2_seatLike_15, a_X2_seatLike_18, a_X2_seatLike_21, a_X2_seatLike_22, a_X2_seatLike_23, a_X2_seatLike_24, a_X2_seatLike_27, a_X2_seatLike_30, a_X2_seatLike_32, a_X2_seatLike_33, a_X2_seatLike_36, a_X2_seatLike_37, a_X2_seatLike_38, a_X2_seatLike_41, a_X2_seatLike_42, a_X2_seatLike_45, a_X2_seatLike_46, a_X2_seatLike_49, a_X2_seatLike_50, a_X2_seatLike_53, a_X2_seatLike_54, a_X2_seatLike_57, a_X2_seatLike_60, a_X2_seatLike_61, a_X2_seatLike_62, a_X2_seatLike_63, a_X2_seatLike_66, a_X2_seatLike_69, a_X2_seatLike_70, a_X2_seatLike_71, a_X2_seatLike_74, a_X2_seatLike_77, a_X2_seatLike_78, a_X2_seatLike_79, a_X2_seatLike_82, a_X2_seatLike_85, a_X2_seatLike_86, a_X2_seatLike_89, a_X2_seatLike_90, a_X2_seatLike_93, a_X2_seatLike_96, a_X2_seatLike_97, a_X2_seatLike_98, a_X2_seatLike_101, a_X2_seatLike_102]
  refine ⟨on, lj_pk IJ, szo, szn, fun M3 T => ?_⟩
  obtain ⟨S3, hs3⟩ := seat M3 T
  exact ⟨(sh_k4 S3).1, hs3 _ (fun M' h => ⟨rfl, h⟩)⟩
