/-! The reference writes: the class keeps its part -/
theorem KI_fr {M : Mem} {x : Nat} {c : Core} {ka : Nat → Nat} {dp : Nat → Nat} {i : Nat} {M1 : Mem} (F : Fr M M1) : KI M1 x c ka dp i = KI M x c ka dp i := by
  have mI300 := (F.2.2.2.2.2 300 rfl).1
  have mI301 := (F.2.2.2.2.2 301 rfl).1
  have mL302 := (F.2.2.2.2.2 302 rfl).2
  have mL303 := (F.2.2.2.2.2 303 rfl).2
  simp only [KI, mI300, mI301, mL302, mL303, F.2.2.1, F.1]
theorem RK_fr {M : Mem} {x : Nat} {c : Core} {nk : Nat} {ka : Nat → Nat} {dp : Nat → Nat} {M1 : Mem} (F : Fr M M1) : RK M1 x c nk ka dp = RK M x c nk ka dp := by
  have mI300 := (F.2.2.2.2.2 300 rfl).1
  have mI301 := (F.2.2.2.2.2 301 rfl).1
  have mI401 := (F.2.2.2.2.2 401 rfl).1
  have mL302 := (F.2.2.2.2.2 302 rfl).2
  have mL303 := (F.2.2.2.2.2 303 rfl).2
  simp only [RK, KI, mI300, mI301, mI401, mL302, mL303, F.2.2.1, F.1]
theorem LI_fr {M : Mem} {x : Nat} {c : Core} {nk : Nat} {ka : Nat → Nat} {ns : Nat} {a : Nat} {l : Nat} {M1 : Mem} (F : Fr M M1) : LI M1 x c nk ka ns a l = LI M x c nk ka ns a l := by
  have mI500 := (F.2.2.2.2.2 500 rfl).1
  have mI502 := (F.2.2.2.2.2 502 rfl).1
  have mI503 := (F.2.2.2.2.2 503 rfl).1
  have mI504 := (F.2.2.2.2.2 504 rfl).1
  have mI508 := (F.2.2.2.2.2 508 rfl).1
  have mI509 := (F.2.2.2.2.2 509 rfl).1
  have mI510 := (F.2.2.2.2.2 510 rfl).1
  have mI511 := (F.2.2.2.2.2 511 rfl).1
  have mI602 := (F.2.2.2.2.2 602 rfl).1
  have mI1029007 := (F.2.2.2.2.2 1029007 rfl).1
  have mI1029015 := (F.2.2.2.2.2 1029015 rfl).1
  have mL506 := (F.2.2.2.2.2 506 rfl).2
  have mL507 := (F.2.2.2.2.2 507 rfl).2
  simp only [LI, mI500, mI502, mI503, mI504, mI508, mI509, mI510, mI511, mI602, mI1029007, mI1029015, mL506, mL507, F.2.2.1, F.1, F.2.1]
theorem RLs_fr {M : Mem} {x : Nat} {c : Core} {nk : Nat} {ka : Nat → Nat} {ns : Nat} {nl : Nat} {la : Nat → Nat} {M1 : Mem} (F : Fr M M1) : RLs M1 x c nk ka ns nl la = RLs M x c nk ka ns nl la := by
  have mI203 := (F.2.2.2.2.2 203 rfl).1
  have mI500 := (F.2.2.2.2.2 500 rfl).1
  have mI502 := (F.2.2.2.2.2 502 rfl).1
  have mI503 := (F.2.2.2.2.2 503 rfl).1
  have mI504 := (F.2.2.2.2.2 504 rfl).1
  have mI508 := (F.2.2.2.2.2 508 rfl).1
  have mI509 := (F.2.2.2.2.2 509 rfl).1
  have mI510 := (F.2.2.2.2.2 510 rfl).1
  have mI511 := (F.2.2.2.2.2 511 rfl).1
  have mI602 := (F.2.2.2.2.2 602 rfl).1
  have mI1029007 := (F.2.2.2.2.2 1029007 rfl).1
  have mI1029015 := (F.2.2.2.2.2 1029015 rfl).1
  have mL506 := (F.2.2.2.2.2 506 rfl).2
  have mL507 := (F.2.2.2.2.2 507 rfl).2
  simp only [RLs, LI, mI203, mI500, mI502, mI503, mI504, mI508, mI509, mI510, mI511, mI602, mI1029007, mI1029015, mL506, mL507, F.2.2.1, F.1, F.2.1]
theorem CI_fr {M : Mem} {x : Nat} {c : Core} {dp : Nat → Nat} {nl : Nat} {la : Nat → Nat} {p : Nat} {L : List Nat} {M1 : Mem} (F : Fr M M1) : CI M1 x c dp nl la p L = CI M x c dp nl la p L := by
  simp only [CI, F.2.2.1]
theorem RC_fr {M : Mem} {x : Nat} {c : Core} {dp : Nat → Nat} {nl : Nat} {la : Nat → Nat} {ch : Nat → List Nat} {M1 : Mem} (F : Fr M M1) : RC M1 x c dp nl la ch = RC M x c dp nl la ch := by
  simp only [RC, CI, F.2.2.1]
theorem RS_fr {M : Mem} {x : Nat} {c : Core} {ns : Nat} {nl : Nat} {M1 : Mem} (F : Fr M M1) : RS M1 x c ns nl = RS M x c ns nl := by
  have mI204 := (F.2.2.2.2.2 204 rfl).1
  have mI205 := (F.2.2.2.2.2 205 rfl).1
  have mI206 := (F.2.2.2.2.2 206 rfl).1
  have mI3006025 := (F.2.2.2.2.2 3006025 rfl).1
  simp only [RS, mI204, mI205, mI206, mI3006025]
theorem TI_fr {M : Mem} {c : Core} {a : Nat} {b : Nat} {t : Nat} {M1 : Mem} (F : Fr M M1) : TI M1 c a b t = TI M c a b t := by
  have mI901 := (F.2.2.2.2.2 901 rfl).1
  have mI902 := (F.2.2.2.2.2 902 rfl).1
  have mL2050007 := (F.2.2.2.2.2 2050007 rfl).2
  simp only [TI, mI901, mI902, mL2050007]
theorem RT_fr {M : Mem} {x : Nat} {c : Core} {M1 : Mem} (F : Fr M M1) : RT M1 x c = RT M x c := by
  have mI901 := (F.2.2.2.2.2 901 rfl).1
  have mI902 := (F.2.2.2.2.2 902 rfl).1
  have mL2050007 := (F.2.2.2.2.2 2050007 rfl).2
  simp only [RT, TI, mI901, mI902, mL2050007]
theorem RA_fr {M : Mem} {x : Nat} {c : Core} {nk : Nat} {ka : Nat → Nat} {M1 : Mem} (F : Fr M M1) : RA M1 x c nk ka = RA M x c nk ka := by
  have mI2 := (F.2.2.2.2.2 2 rfl).1
  have mI3 := (F.2.2.2.2.2 3 rfl).1
  have mL2000016 := (F.2.2.2.2.2 2000016 rfl).2
  simp only [RA, mI2, mI3, mL2000016, F.2.2.1]
theorem RP_fr {M : Mem} {x : Nat} {c : Core} {cu : Nat} {nf : Nat} {lg : Nat} {M1 : Mem} (F : Fr M M1) : RP M1 x c cu nf lg = RP M x c cu nf lg := by
  have mI704 := (F.2.2.2.2.2 704 rfl).1
  have mI705 := (F.2.2.2.2.2 705 rfl).1
  have mI706 := (F.2.2.2.2.2 706 rfl).1
  have mI707 := (F.2.2.2.2.2 707 rfl).1
  have mI708 := (F.2.2.2.2.2 708 rfl).1
  have mI709 := (F.2.2.2.2.2 709 rfl).1
  have mI1032015 := (F.2.2.2.2.2 1032015 rfl).1
  have mI1032023 := (F.2.2.2.2.2 1032023 rfl).1
  have mI1032031 := (F.2.2.2.2.2 1032031 rfl).1
  have mL2032007 := (F.2.2.2.2.2 2032007 rfl).2
  simp only [RP, mI704, mI705, mI706, mI707, mI708, mI709, mI1032015, mI1032023, mI1032031, mL2032007]
theorem RV_fr {M : Mem} {x : Nat} {c : Core} {M1 : Mem} (F : Fr M M1) : RV M1 x c = RV M x c := by
  have mI710 := (F.2.2.2.2.2 710 rfl).1
  have mL711 := (F.2.2.2.2.2 711 rfl).2
  simp only [RV, mI710, mL711]
theorem RW_fr {M : Mem} {x : Nat} {c : Core} {nk : Nat} {ka : Nat → Nat} {wn : Nat} {M1 : Mem} (F : Fr M M1) : RW M1 x c nk ka wn = RW M x c nk ka wn := by
  have mI1002 := (F.2.2.2.2.2 1002 rfl).1
  have mI1003 := (F.2.2.2.2.2 1003 rfl).1
  have mL2056016 := (F.2.2.2.2.2 2056016 rfl).2
  simp only [RW, mI1002, mI1003, mL2056016, F.2.2.1]

theorem SH_fr {M M1 : Mem} {x : Nat} (F : Fr M M1) : SH M1 x = SH M x := by
  have i1 := (F.2.2.2.2.2 100 rfl).1
  simp only [SH, F.1, F.2.1, F.2.2.1, i1]
theorem R0_fr {M M1 : Mem} {x : Nat} {c : Core} {nk : Nat} {ka dp : Nat → Nat} {ns nl : Nat} {la : Nat → Nat} {ch : Nat → List Nat} {S0 U0 : Nat} (F : Fr M M1) (hc : Cln M1) (R : R0 M x c nk ka dp ns nl la ch S0 U0) : R0 M1 x c nk ka dp ns nl la ch S0 U0 := by
  refine ⟨⟨by rw [F.2.2.2.1]; exact rz_s (r0_z R), by rw [F.2.2.2.2.1]; exact rz_u (r0_z R), hc⟩, by rw [SH_fr F]; exact r0_sh R, by rw [RK_fr F]; exact r0_k R, by rw [RLs_fr F]; exact r0_l R, by rw [RC_fr F]; exact r0_c R, by rw [RS_fr F]; exact r0_s R, by rw [RT_fr F]; exact r0_t R, by rw [RA_fr F]; exact r0_a R⟩
theorem listen_fr {M : Mem} {h l : Nat} {k p r s : Int32} : Fr M (s_listen M h l k p r s) := by
  unfold s_listen
  exact (((((((((((Fr.rf.sI rfl).sI rfl).sI rfl).sI rfl).sI rfl).sL rfl).sL rfl).sI rfl).sI rfl).sI rfl).sI rfl).sI rfl
theorem listen_cl {M : Mem} {h l : Nat} {k p r s : Int32} (H : RM M h) (hc : Cln M) : Cln (s_listen M h l k p r s) := by
  unfold s_listen
  (repeat' (first | exact hc | apply cl_sI | apply cl_sL)) <;> (simp only [mK_sI, mK_sL, mK_sR, mK_nw, mN_sI, mN_sL, mN_sR, mN_nw, mI_sI, mI_sL, mI_sR, mI_nw, mL_sI, mL_sL, mL_sR, mL_nw, mR_sI, mR_sL, mR_sR, mR_nw, mS_sI, mS_sL, mS_sR, mS_nw, mU_sI, mU_sL, mU_sR, mU_nw, RM.k H, (rm_kindOf H).1, (rm_kindOf H).2.1, (rm_kindOf H).2.2, (rm_phaseOf H).1, (rm_phaseOf H).2.1, (rm_phaseOf H).2.2, (rm_rankOf H).1, (rm_rankOf H).2.1, (rm_rankOf H).2.2, (rm_sceneOf H).1, (rm_sceneOf H).2.1, (rm_sceneOf H).2.2, (rm_lowOf H).1, (rm_lowOf H).2.1, (rm_lowOf H).2.2, (rm_highOf H).1, (rm_highOf H).2.1, (rm_highOf H).2.2, (rm_isOnce H).1, (rm_isOnce H).2.1, (rm_isOnce H).2.2, (rm_there H).1, (rm_there H).2.1, (rm_there H).2.2, (rm_stepMany H).1, (rm_stepMany H).2.1, (rm_stepMany H).2.2, (rm_toldOften H).1, (rm_toldOften H).2.1, (rm_toldOften H).2.2, (rm_trayOf H).1, (rm_trayOf H).2.1, (rm_trayOf H).2.2]; decide)
theorem lstC_o {c : Core} {l : Nat} {k p r s : Int32} {i : Nat} (hi : ¬ i = l) : kI (lstC c l k p r s) 6 i = kI c 6 i ∧ kI (lstC c l k p r s) 7 i = kI c 7 i ∧ kI (lstC c l k p r s) 8 i = kI c 8 i ∧ kI (lstC c l k p r s) 9 i = kI c 9 i ∧ kL (lstC c l k p r s) 10 i = kL c 10 i ∧ kL (lstC c l k p r s) 11 i = kL c 11 i ∧ kI (lstC c l k p r s) 12 i = kI c 12 i ∧ kI (lstC c l k p r s) 13 i = kI c 13 i ∧ kI (lstC c l k p r s) 14 i = kI c 14 i ∧ kI (lstC c l k p r s) 17 i = kI c 17 i ∧ kI (lstC c l k p r s) 18 i = kI c 18 i := by
  unfold lstC
  simp only [kI_uI, kI_uL, kL_uI, kL_uL, hi, Nat.reduceEqDiff, and_false, false_and, if_false, and_self]
theorem lstC_k {c : Core} {l : Nat} {k p r s : Int32} {f : Nat} (hf : f ∉ [5, 6, 7, 8, 9, 10, 11, 12, 13, 14, 17, 18]) (i : Nat) : kI (lstC c l k p r s) f i = kI c f i ∧ kL (lstC c l k p r s) f i = kL c f i := by
  simp only [List.mem_cons, List.not_mem_nil, or_false, not_or] at hf
  obtain ⟨h1, h2, h3, h4, h5, h6, h7, h8, h9, h10, h11, h12⟩ := hf
  unfold lstC
  simp only [kI_uI, kI_uL, kL_uI, kL_uL, h1, h2, h3, h4, h5, h6, h7, h8, h9, h10, h11, h12, false_and, if_false, and_self]
/-! the new one takes its seat, and the reference does the same -/
set_option maxRecDepth 20000 in
theorem y_new {D : DD} {d : Nat} {M : Mem} {x h S0 U0 : Nat} (hR : Rel M x h S0 U0) {kk pp nk0 ns0 nl0 : Nat} {ka0 : Nat → Nat} {r s : Int32} (hk0 : (mI M 1200 h 0) = nI nk0) (hn0 : (mI M 1203 h 0) = nI ns0) (hl0 : (mI M 1205 h 0) = nI nl0) (b1 : nk0 ≤ 40) (b2 : ns0 ≤ 30) (b3 : nl0 < 200) (hka : mR M 5022007 (x + 3) kk = some (ka0 kk)) (hkk : kk < nk0) (hpp : pp < 3) (hs0 : s = -4 ∨ (inN s ns0 ∧ opn (core M h) ns0 s ∧ ¬ s = -4)) :
    SH (linit (nw M 6 0 13) (mS M) (nI nl0) (ka0 kk) (nI pp) r s) x ∧ ∀ Q : Qt, (∀ M', mK M' (mS M) = 6 ∧ mI M' 500 (mS M) 0 = nI nl0 ∧ PrI D (d + 20) mi_X12_listen [.ref h, .int (nI kk), .int (nI pp), .int r, .int s] x h S0 U0 M' (some (.int (nI nl0))) → Q M' none) → Call D (d + 19) mi_X2_seat [.ref (x + 4), .ref (mS M)] (linit (nw M 6 0 13) (mS M) (nI nl0) (ka0 kk) (nI pp) r s) Q := by
  have hR' := hR
  obtain ⟨H, nk, ka, dp, ns, nl, la, ch, cu, nf, lg, wf, R, P, V, w1, w2, w3⟩ := hR
  have zs := rz_s (r0_z R)
  have zu := rz_u (r0_z R)
  have zc := rz_cl (r0_z R)
  have S := r0_sh R
  have K := r0_k R
  have L := r0_l R
  have C := r0_s R
  have T := r0_t R
  have nk40 := rk_le K
  have nl200 := rl_le L
  have ns30 := rs_le C
  have r_kinds : (mI M 1200 h 0) = nI nk := rk_c K
  have r_listeners : (mI M 1205 h 0) = nI nl := rl_c L
  have r_scenes : (mI M 1203 h 0) = nI ns := rs_c C
  have cm := rl_come L
  have x1 : nk0 = nk := (nI_eq (by omega) (by omega)).mp (by rw [← hk0]; exact r_kinds)
  have x2 : ns0 = ns := (nI_eq (by omega) (by omega)).mp (by rw [← hn0]; exact r_scenes)
  have x3 : nl0 = nl := (nI_eq (by omega) (by omega)).mp (by rw [← hl0]; exact r_listeners)
  rw [x2] at hs0
  rw [x3] at b3 ⊢
  have hk : kk < nk := by omega
  have x4 : ka0 kk = ka kk := by
    have := ki_at (rk_i K kk hk)
    rw [hka] at this; exact Option.some.inj this
  rw [x4]
  have hp := hpp
  have e6 := b3
  have hs3 := hs0
  have e1 : inN (nI kk) nk := nI_inN hk (by omega)
  have e2 : inN (nI pp) 3 := nI_inN hp (by omega)
  have e3 : s = -4 ∨ inN s ns := by
    rcases hs3 with z | ⟨z, _⟩
    · exact Or.inl z
    · exact Or.inr z
  have xlt : x + 48 < mS M := cl_lt zc (by have := (sh_cue S (show 11 < 12 by omega)).2.1; rw [show x + 37 + 11 = x + 48 by omega] at this; rw [this]; decide)
  have hkN : mK (nw M 6 0 13) (mS M) = 6 := by rw [mK_nw, if_pos rfl]
  have hsN : mS (nw M 6 0 13) = mS M + 1 := rfl
  obtain ⟨hc1, F1⟩ := linit_cl (n := nI nl) (kd := ka kk) (p := nI pp) (r := r) (s := s) (cl_nw (c := 6) (n := 0) (u := 13) zc) hkN hsN
  have F1' := (Fz.nw (ki := [509, 500, 502, 503, 504]) (kl := [506, 507]) (kr := [600, 601, 505, 501]) (c := 6) (n := 0) (u := 13) zc).tr F1
  have S1 := SH_fz F1' (by decide) (by decide) S
  have IJ := LJ_init (x := x) (c := core M h) (nk := nk) (ka := ka) (ns := ns) (l := nl) (k := kk) (p := pp) (r := r) (s := s) (cl_nw (c := 6) (n := 0) (u := 13) zc) hkN hsN (fun kq i hr => (zc (mS M) (Nat.le_refl _)).2 kq i hr) hk hp e3
  have K1 := RK_fz F1' (by decide) (by decide) (by decide) K
  have alt : ∀ l, l < nl → la l + 3 < mS M := fun l hl => cl_lt zc (by rw [li_nk (rl_i L l hl)]; decide)
  obtain ⟨rd1, rd2, rd3⟩ := linit_rd (M := nw M 6 0 13) (a := mS M) (n := nI nl) (kd := ka kk) (p := nI pp) (r := r) (s := s)
  have hl1 : ∀ l, l < nl → LI (linit (nw M 6 0 13) (mS M) (nI nl) (ka kk) (nI pp) r s) x (lstC (core M h) nl (nI kk) (nI pp) r s) nk ka ns (la l) l := fun l hl => by
    obtain ⟨o6, o7, o8, o9, o10, o11, o12, o13, o14, o17, o18⟩ := lstC_o (c := core M h) (k := nI kk) (p := nI pp) (r := r) (s := s) (show ¬ l = nl by omega)
    refine LI_cc o6 o7 o8 o9 o10 o11 o12 o13 o14 o17 o18 (fun j _ => (lstC_k (by decide) _).1) (fun j _ => (lstC_k (by decide) _).1) (LI_far (A := mS M) (rl_i L l hl) F1'.1 ?_ (alt l hl) rd1 rd2 (fun kq q _ hq => rd3 kq q 0 hq))
    rw [F1'.r 6006008 (by decide)]
  have C1 : RC (linit (nw M 6 0 13) (mS M) (nI nl) (ka kk) (nI pp) r s) x (lstC (core M h) nl (nI kk) (nI pp) r s) dp nl la ch := RC_cc (fun l hl => by
    obtain ⟨o6, o7, o8, -⟩ := lstC_o (c := core M h) (k := nI kk) (p := nI pp) (r := r) (s := s) (show ¬ l = nl by omega)
    exact ⟨o6, o7, o8⟩) (by rw [RC_fz F1' (by decide)]; exact r0_c R)
  have Sc1 : RS (linit (nw M 6 0 13) (mS M) (nI nl) (ka kk) (nI pp) r s) x (lstC (core M h) nl (nI kk) (nI pp) r s) ns nl := RS_cc (lstC_k (by decide) _).1 (fun i _ => (lstC_k (by decide) _).1) (fun l hl => (lstC_o (show ¬ l = nl by omega)).2.2.2.2.2.2.2.1) (by rw [RS_fz F1' (by decide)]; exact C)
  have hc5 : kI (lstC (core M h) nl (nI kk) (nI pp) r s) 5 0 = nI (nl + 1) := by unfold lstC; simp only [kI_uI, kI_uL, Nat.reduceEqDiff, false_and, if_false, and_self, if_true]
  have hc13 : kI (lstC (core M h) nl (nI kk) (nI pp) r s) 13 nl = 1 := by unfold lstC; simp only [kI_uI, kI_uL, Nat.reduceEqDiff, false_and, if_false, and_self, if_true]
  have hc7 : kI (lstC (core M h) nl (nI kk) (nI pp) r s) 7 nl = nI pp := by unfold lstC; simp only [kI_uI, kI_uL, Nat.reduceEqDiff, false_and, if_false, and_self, if_true]
  have cm1 : (mI (linit (nw M 6 0 13) (mS M) (nI nl) (ka kk) (nI pp) r s) 203 (x + 4) 0) = nI nl := by rw [F1'.i 203 (by decide)]; exact cm
  have seat : ∀ Q : Qt, (∀ M', PostSeat (linit (nw M 6 0 13) (mS M) (nI nl) (ka kk) (nI pp) r s) x (lstC (core M h) nl (nI kk) (nI pp) r s) nk ka dp ns nl la ch (mS M) M' → Q M' none) → Call D (d + 19) mi_X2_seat [.ref (x + 4), .ref (mS M)] (linit (nw M 6 0 13) (mS M) (nI nl) (ka kk) (nI pp) r s) Q := fun Q hq => c_seat (d := d + 13) S1 hc1 e6 cm1 K1 IJ hl1 C1 Sc1 hc5 hc13 hp hc7 (fun l hl => by have := alt l hl; omega) hq
  have fin : ∀ M', PostSeat (linit (nw M 6 0 13) (mS M) (nI nl) (ka kk) (nI pp) r s) x (lstC (core M h) nl (nI kk) (nI pp) r s) nk ka dp ns nl la ch (mS M) M' → mK M' (mS M) = 6 ∧ mI M' 500 (mS M) 0 = nI nl ∧ PrI D (d + 20) mi_X12_listen [.ref h, .int (nI kk), .int (nI pp), .int r, .int s] x h S0 U0 M' (some (.int (nI nl))) := by
    intro M' PS
    have In := rl_i PS.2.2.1 nl (by omega)
    rw [show la1 la nl (mS M) nl = mS M from if_pos rfl] at In
    refine ⟨li_k In, li_num In, _, rfl, ?_⟩
    have F2 := Fz.of PS.1
    have H' := RM_fz F2 (by decide) (RM_fz F1' (by decide) H)
    have hco : core M' h = core M h := (core_fz F2 (by decide) (by decide)).trans (core_fz F1' (by decide) (by decide))
    have g1 : kI (core M' h) 0 0 = nI nk := by rw [hco]; exact rk_c K
    have g2 : kI (core M' h) 3 0 = nI ns := by rw [hco]; exact rs_c C
    have g3 : kI (core M' h) 5 0 = nI nl := by rw [hco]; exact rl_c L
    refine c_listen (d := d + 17) (h := h) (nk := nk) (ns := ns) (nl := nl) _ _ _ ⟨rfl, H', g1, nk40, g2, ns30, g3, e6, e1, e2, ?_, rfl, ?_⟩
    · rcases hs3 with z | ⟨z1, z2, z3⟩
      · exact Or.inl z
      · refine Or.inr ⟨z1, ?_⟩
        have : ¬ kI (core M' h) 4 s.toNatClampNeg = 0 := by rw [hco]; exact z2.2
        exact this
    · obtain ⟨ch', R', -⟩ := Rel_come R F1' (by decide) (by decide) (by decide) (by show mS M + 1 + 1 + 1 + 1 ≤ _; omega) (by show mU M + 13 + 3 + 10 + 10 ≤ _; omega) PS (fun i => ⟨(lstC_k (by decide) _).1, (lstC_k (by decide) _).1, (lstC_k (by decide) _).2, (lstC_k (by decide) _).1, (lstC_k (by decide) _).1, (lstC_k (by decide) _).2, (lstC_k (by decide) _).1, (lstC_k (by decide) _).1, (lstC_k (by decide) _).2⟩)
      refine ⟨H'.fr listen_fr, nk, ka, dp, ns, nl + 1, la1 la nl (mS M), ch', cu, nf, lg, wf, ?_⟩
      rw [core_listen, hco]
      refine ⟨R0_fr listen_fr (listen_cl H' PS.2.1) R', ?_, ?_, ?_, ?_, w3⟩
      · rw [RP_fr listen_fr, RP_fz F2 (by decide) (by decide), RP_fz F1' (by decide) (by decide)]
        unfold lstC
        simp only [KI_sI, KI_sL, KI_sR, KI_wI, KI_wL, KI_uI, KI_uL, KI_wcI, KI_wcL, RK_sI, RK_sL, RK_sR, RK_wI, RK_wL, RK_uI, RK_uL, RK_wcI, RK_wcL, LI_sI, LI_sL, LI_sR, LI_wI, LI_wL, LI_uI, LI_uL, LI_wcI, LI_wcL, RLs_sI, RLs_sL, RLs_sR, RLs_wI, RLs_wL, RLs_uI, RLs_uL, RLs_wcI, RLs_wcL, CI_sI, CI_sL, CI_sR, CI_wI, CI_wL, CI_uI, CI_uL, CI_wcI, CI_wcL, RC_sI, RC_sL, RC_sR, RC_wI, RC_wL, RC_uI, RC_uL, RC_wcI, RC_wcL, RS_sI, RS_sL, RS_sR, RS_wI, RS_wL, RS_uI, RS_uL, RS_wcI, RS_wcL, TI_sI, TI_sL, TI_sR, TI_wI, TI_wL, TI_uI, TI_uL, TI_wcI, TI_wcL, RT_sI, RT_sL, RT_sR, RT_wI, RT_wL, RT_uI, RT_uL, RT_wcI, RT_wcL, RA_sI, RA_sL, RA_sR, RA_wI, RA_wL, RA_uI, RA_uL, RA_wcI, RA_wcL, RP_sI, RP_sL, RP_sR, RP_wI, RP_wL, RP_uI, RP_uL, RP_wcI, RP_wcL, RV_sI, RV_sL, RV_sR, RV_wI, RV_wL, RV_uI, RV_uL, RV_wcI, RV_wcL, RW_sI, RW_sL, RW_sR, RW_wI, RW_wL, RW_uI, RW_uL, RW_wcI, RW_wcL, Nat.reduceEqDiff, not_false_eq_true]
        exact P
      · rw [RV_fr listen_fr, RV_fz F2 (by decide) (by decide), RV_fz F1' (by decide) (by decide)]
        unfold lstC
        simp only [KI_sI, KI_sL, KI_sR, KI_wI, KI_wL, KI_uI, KI_uL, KI_wcI, KI_wcL, RK_sI, RK_sL, RK_sR, RK_wI, RK_wL, RK_uI, RK_uL, RK_wcI, RK_wcL, LI_sI, LI_sL, LI_sR, LI_wI, LI_wL, LI_uI, LI_uL, LI_wcI, LI_wcL, RLs_sI, RLs_sL, RLs_sR, RLs_wI, RLs_wL, RLs_uI, RLs_uL, RLs_wcI, RLs_wcL, CI_sI, CI_sL, CI_sR, CI_wI, CI_wL, CI_uI, CI_uL, CI_wcI, CI_wcL, RC_sI, RC_sL, RC_sR, RC_wI, RC_wL, RC_uI, RC_uL, RC_wcI, RC_wcL, RS_sI, RS_sL, RS_sR, RS_wI, RS_wL, RS_uI, RS_uL, RS_wcI, RS_wcL, TI_sI, TI_sL, TI_sR, TI_wI, TI_wL, TI_uI, TI_uL, TI_wcI, TI_wcL, RT_sI, RT_sL, RT_sR, RT_wI, RT_wL, RT_uI, RT_uL, RT_wcI, RT_wcL, RA_sI, RA_sL, RA_sR, RA_wI, RA_wL, RA_uI, RA_uL, RA_wcI, RA_wcL, RP_sI, RP_sL, RP_sR, RP_wI, RP_wL, RP_uI, RP_uL, RP_wcI, RP_wcL, RV_sI, RV_sL, RV_sR, RV_wI, RV_wL, RV_uI, RV_uL, RV_wcI, RV_wcL, RW_sI, RW_sL, RW_sR, RW_wI, RW_wL, RW_uI, RW_uL, RW_wcI, RW_wcL, Nat.reduceEqDiff, not_false_eq_true]
        exact V
      · rw [(listen_fr.2.2.2.2.2 1003 rfl).1, F2.i 1003 (by decide), F1'.i 1003 (by decide)]; exact w1
      · rw [(listen_fr.2.2.2.2.2 1002 rfl).1, F2.i 1002 (by decide), F1'.i 1002 (by decide)]; exact w2
  exact ⟨S1, fun Q hq => seat Q (fun M' PS => hq M' (fin M' PS))⟩
