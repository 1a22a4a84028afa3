/-! A cue begins, its act is made -/
/-- a listener has been told, the cue goes on -/
theorem tsn_sk {K : List Nat} {c c' : Core} (F : Skn K c c') (hK : dj K [1, 6, 13] = true) (kk : Nat) (L : List Nat) : tsn c' kk L = tsn c kk L := by
  unfold tsn
  refine List.filter_congr (fun m _ => ?_)
  unfold hrs akc
  have f1 := funext (F 1 (dj_ne hK (by decide))).1
  rw [(F 13 (dj_ne hK (by decide))).1, (F 6 (dj_ne hK (by decide))).1, f1]
theorem bp_sk {c : Core} {dd : Nat} {ph : Int32} {ts : List Nat} : Sk c (bpC c dd ph ts) := by
  unfold bpC
  exact (((Sk.rf.uI (by decide)).uI (by decide)).uI (by decide)).wcI (by decide)
theorem bp_skn {c : Core} {dd : Nat} {ph : Int32} {ts : List Nat} : Skn [22, 28, 29, 30] c (bpC c dd ph ts) := by
  unfold bpC
  exact (((Skn.rf.uI (by decide)).uI (by decide)).uI (by decide)).wcI (by decide)
theorem bp_at {c : Core} {dd : Nat} {ph : Int32} {ts : List Nat} : kI (bpC c dd ph ts) 28 dd = ph ∧ kI (bpC c dd ph ts) 29 dd = nI ts.length ∧ kI (bpC c dd ph ts) 30 dd = 0 ∧ (∀ i v, ts[i]? = some v → kI (bpC c dd ph ts) 22 (200 * dd + i) = nI v) := by
  unfold bpC
  refine ⟨?_, ?_, ?_, fun i v h => ?_⟩
  · simp only [kI_uI, kI_wcI, Nat.reduceEqDiff, false_and, if_false, and_self, if_true]
  · simp only [kI_uI, kI_wcI, Nat.reduceEqDiff, false_and, if_false, and_self, if_true]
  · simp only [kI_uI, kI_wcI, Nat.reduceEqDiff, false_and, if_false, and_self, if_true]
  · have hi : i < ts.length := by
      rcases Nat.lt_or_ge i ts.length with q | q
      · exact q
      · rw [List.getElem?_eq_none q] at h; cases h
    rw [kI_wcI, if_pos rfl]
    unfold cpT
    rw [if_pos (by omega), show 200 * dd + i - 200 * dd = i by omega, List.getD_eq_getElem?_getD, h]; rfl
theorem bp_O {c : Core} {dd : Nat} {ph : Int32} {ts : List Nat} : Ofr dd c (bpC c dd ph ts) := by
  refine ⟨fun e' he' => ⟨fun k hk => ?_, (bp_skn 27 (by decide)).2 e', (bp_skn 35 (by decide)).2 e'⟩, fun q hq => ?_⟩
  · simp only [List.mem_cons, List.not_mem_nil, or_false] at hk
    unfold bpC
    rw [kI_wcI, if_neg (by omega), kI_uI, if_neg (fun q => by omega), kI_uI, if_neg (fun q => by omega), kI_uI, if_neg (fun q => by omega)]
  · unfold bpC
    rw [kI_wcI, if_pos rfl]
    unfold cpT
    rw [if_neg (by omega)]
theorem bg_skn {c : Core} {dd kk : Nat} {v : Int64} {ts : List Nat} : Skn [22, 25, 26, 27, 28, 29, 30, 31, 32, 40, 45] c (bgC c dd kk v ts) := by
  have h : Skn [22, 25, 26, 27, 28, 29, 30, 31, 32, 40, 45] c (bg0 c dd kk v) := by
    unfold bg0
    exact ((((((Skn.rf.uI (by decide)).uI (by decide)).uI (by decide)).uI (by decide)).uL (by decide)).uI (by decide)).uI (by decide)
  exact h.tr (fun k hk => bp_skn k (fun q => hk ((by decide : ∀ z ∈ [22, 28, 29, 30], z ∈ [22, 25, 26, 27, 28, 29, 30, 31, 32, 40, 45]) k q)))
theorem bg_at {c : Core} {dd kk : Nat} {v : Int64} {ts : List Nat} : kI (bgC c dd kk v ts) 25 0 = nI (dd + 1) ∧ kI (bgC c dd kk v ts) 45 0 = (if nI (dd + 1) ≤ (kI c 45 0) then (kI c 45 0) else nI (dd + 1)) ∧ kI (bgC c dd kk v ts) 40 0 = (kI c 40 0) + 1 ∧ kI (bgC c dd kk v ts) 26 dd = nI kk ∧ kL (bgC c dd kk v ts) 27 dd = v ∧ kI (bgC c dd kk v ts) 31 dd = 0 ∧ kI (bgC c dd kk v ts) 32 dd = 0 := by
  unfold bgC
  rw [(bp_skn 25 (by decide)).1, (bp_skn 45 (by decide)).1, (bp_skn 40 (by decide)).1, (bp_skn 26 (by decide)).1, (bp_skn 27 (by decide)).2, (bp_skn 31 (by decide)).1, (bp_skn 32 (by decide)).1]
  unfold bg0
  simp only [kI_uI, kI_uL, kL_uI, kL_uL, Nat.reduceEqDiff, false_and, if_false, and_self, if_true]
theorem bg_O {c : Core} {dd kk : Nat} {v : Int64} {ts : List Nat} : Ofr dd c (bgC c dd kk v ts) := by
  refine Ofr.tr (c1 := bg0 c dd kk v) ⟨fun e' he' => ⟨fun k hk => ?_, ?_, ?_⟩, fun q hq => ?_⟩ bp_O
  · simp only [List.mem_cons, List.not_mem_nil, or_false] at hk
    have n1 : ¬ k = 25 := by omega
    have n2 : ¬ k = 45 := by omega
    have n3 : ¬ k = 40 := by omega
    have n4 : ¬ e' = dd := by omega
    unfold bg0
    simp only [kI_uI, kI_uL, n1, n2, n3, n4, and_false, false_and, if_false]
  · unfold bg0
    rw [kL_uI, kL_uI, kL_uL, if_neg (fun q => by omega)]; rfl
  · unfold bg0
    rw [kL_uI, kL_uI, kL_uL, if_neg (fun q => absurd q.1 (by decide))]; rfl
  · unfold bg0
    simp only [kI_uI, kI_uL, Nat.reduceEqDiff, false_and, if_false]
theorem mx_eq (x y : Int32) : (if x < y then y else x) = (if y ≤ x then x else y) := by
  by_cases h : x < y
  · have : ¬ y ≤ x := fun q => by rw [Int32.le_iff_toInt_le] at q; rw [Int32.lt_iff_toInt_lt] at h; omega
    rw [if_pos h, if_neg this]
  · have : y ≤ x := by rw [Int32.le_iff_toInt_le]; rw [Int32.lt_iff_toInt_lt] at h; omega
    rw [if_neg h, if_pos this]
/-- a cue's begin, in the class -/
theorem MS_begin {M : Mem} {x e kk : Nat} {c : Core} {v : Int64} {ts : List Nat} {nk : Nat} {ka dp : Nat → Nat} {ns nl : Nat} {la : Nat → Nat} {ch : Nat → List Nat} {S0 U0 cu nf lg wn : Nat} (R : MS M x c nk ka dp ns nl la ch S0 U0 cu nf lg wn) (he : e < 12) (hcu : cu < 60) : MS (sI (sI (sI (sL M 102 (x + 37 + e) 0 v) 104 (x + 37 + e) 0 (-4)) 704 (x + 12) 0 (nI (cu + 1))) 709 (x + 12) 0 (if (mI M 709 (x + 12) 0) < nI (e + 1) then nI (e + 1) else (mI M 709 (x + 12) 0))) x (bgC c e kk v ts) nk ka dp ns nl la ch S0 U0 (cu + 1) nf lg wn ∧ Fx [104, 704, 709] [102] [] M (sI (sI (sI (sL M 102 (x + 37 + e) 0 v) 104 (x + 37 + e) 0 (-4)) 704 (x + 12) 0 (nI (cu + 1))) 709 (x + 12) 0 (if (mI M 709 (x + 12) 0) < nI (e + 1) then nI (e + 1) else (mI M 709 (x + 12) 0))) := by
  have S := r0_sh R.1
  have zc := rz_cl (r0_z R.1)
  have q2 := (sh_cue S he).2.1
  have P := R.2.1
  have F : Fx [104, 704, 709] [102] [] M (sI (sI (sI (sL M 102 (x + 37 + e) 0 v) 104 (x + 37 + e) 0 (-4)) 704 (x + 12) 0 (nI (cu + 1))) 709 (x + 12) 0 (if (mI M 709 (x + 12) 0) < nI (e + 1) then nI (e + 1) else (mI M 709 (x + 12) 0))) := (((Fx.rf.sL (by decide)).sI (by decide)).sI (by decide)).sI (by decide)
  have hcl : Cln (sI (sI (sI (sL M 102 (x + 37 + e) 0 v) 104 (x + 37 + e) 0 (-4)) 704 (x + 12) 0 (nI (cu + 1))) 709 (x + 12) 0 (if (mI M 709 (x + 12) 0) < nI (e + 1) then nI (e + 1) else (mI M 709 (x + 12) 0))) := cl_sI (cl_sI (cl_sI (cl_sL zc (by rw [q2]; decide)) (by rw [mK_sL, q2]; decide)) (by rw [mK_sI, mK_sL, (sh_k12 S).1]; decide)) (by rw [mK_sI, mK_sI, mK_sL, (sh_k12 S).1]; decide)
  have Fc := bg_skn (c := c) (dd := e) (kk := kk) (v := v) (ts := ts)
  obtain ⟨g1, g2, g3, g4, g5, g6, g7⟩ := bg_at (c := c) (dd := e) (kk := kk) (v := v) (ts := ts)
  refine ⟨⟨R0_skn Fc (by decide) (R0_fx F (by decide) (by decide) (by decide) hcl R.1), ?_, ?_⟩, F⟩
  · refine ⟨by simp only [mK_sI, mK_sL, mK_sR, mK_nw, mN_sI, mN_sL, mN_sR, mN_nw, mI_sI, mI_sL, mI_sR, mI_nw, mL_sI, mL_sL, mL_sR, mL_nw, mR_sI, mR_sL, mR_sR, mR_nw, mS_sI, mS_sL, mS_sR, mS_nw, mU_sI, mU_sL, mU_sR, mU_nw, true_and, mI_wI, mI_wL, mL_wI, mL_wL, mR_wI, mR_wL, Nat.reduceEqDiff, false_and, if_false, and_self, if_true, implies_true], ?_, by omega, by rw [F.i 705 (by decide), (Fc 41 (by decide)).1]; exact rp_told P, by rw [F.i 706 (by decide)]; exact rp_lg P, by rw [(Fc 42 (by decide)).1]; exact rp_lgc P, rp_lgb P, fun i h1 h2 => by rw [F.l 2032007 (by decide), (Fc 48 (by decide)).2]; exact rp_log P i h1 h2, by rw [F.i 707 (by decide)]; exact rp_nf P, by rw [(Fc 43 (by decide)).1]; exact rp_nfc P, rp_nfb P, fun i hi => by rw [F.i 1032015 (by decide), F.i 1032023 (by decide), F.i 1032031 (by decide), (Fc 49 (by decide)).1, (Fc 50 (by decide)).1, (Fc 51 (by decide)).1]; exact rp_fs P i hi, by rw [F.i 708 (by decide), (Fc 44 (by decide)).1]; exact rp_vet P, ?_⟩
    · rw [g3, rp_cuc P, nI_succ]
    · rw [g2, ← rp_deep P, mI_sI, if_pos ⟨rfl, rfl, rfl⟩, mx_eq]
  · rw [RW_skn Fc (by decide), RW_fx F (by decide) (by decide) (by decide)]; exact R.2.2
theorem ac_skn {c : Core} {e kk na : Nat} : Skn [2, 52, 53, 54] c (acC c e kk na) := fun k hk => ⟨fun i => (acC_o hk i).1, fun i => (acC_o hk i).2⟩
theorem ac_at {c : Core} {e kk na : Nat} (hna : na ≤ 50) : (∀ k, kL (acC c e kk na) 2 k = if k = kk then kL c 2 kk + kL c 27 e else kL c 2 k) ∧ kI (acC c e kk na) 52 0 = nI (if na = 50 then 50 else na + 1) ∧ (∀ j, kI (acC c e kk na) 53 j = if j = (if na = 50 then 49 else na) then nI kk else if na = 50 then shf (kI c 53) 50 j else kI c 53 j) ∧ (∀ j, kL (acC c e kk na) 54 j = if j = (if na = 50 then 49 else na) then kL c 27 e else if na = 50 then shf (kL c 54) 50 j else kL c 54 j) := by
  unfold acC
  by_cases h : na = 50
  · simp only [h, if_true]
    refine ⟨fun k => ?_, ?_, fun j => ?_, fun j => ?_⟩
    · simp only [kL_uI, kL_uL, kL_wcI, kL_wcL, Nat.reduceEqDiff, false_and, if_false, true_and]
    · simp only [kI_uI, and_self, if_true]
    · simp only [kI_uI, kI_uL, kI_wcI, kI_wcL, Nat.reduceEqDiff, false_and, if_false, true_and, if_true]
    · simp only [kL_uI, kL_uL, kL_wcI, kL_wcL, Nat.reduceEqDiff, false_and, if_false, true_and, if_true]
  · simp only [h, if_false]
    refine ⟨fun k => ?_, ?_, fun j => ?_, fun j => ?_⟩
    · simp only [kL_uI, kL_uL, Nat.reduceEqDiff, false_and, if_false, true_and]
    · simp only [kI_uI, and_self, if_true]
    · simp only [kI_uI, kI_uL, Nat.reduceEqDiff, false_and, if_false, true_and]
    · simp only [kL_uI, kL_uL, Nat.reduceEqDiff, false_and, if_false, true_and]
theorem MS_act {M M' : Mem} {x e kk na nx : Nat} {c : Core} {nk : Nat} {ka dp : Nat → Nat} {ns nl : Nat} {la : Nat → Nat} {ch : Nat → List Nat} {S0 U0 cu nf lg wn : Nat} (R : MS M x c nk ka dp ns nl la ch S0 U0 cu nf lg wn) (hkk : kk < nk) (a1 : na ≤ 50) (a2 : nx < 50) (a4 : (kI c 52 0) = nI na) (a6 : ∀ j, j < na → ∃ k, k < nk ∧ (kI c 53 (j)) = nI k ∧ (mR M 5000007 (x + 10) ((nx + 50 - na + j) % 50)) = some (ka k) ∧ (mL M 2000016 (x + 11) ((nx + 50 - na + j) % 50)) = (kL c 54 (j)))
    (F : Fx [2, 3] [303, 2000016] [5000007] M M') (hcl : Cln M') (m1 : ∀ k, k < nk → mL M' 303 (ka k) 0 = if k = kk then kL c 2 kk + kL c 27 e else kL c 2 k) (m2 : (mI M' 3 (x + 9) 0) = nI (if na = 50 then 50 else na + 1)) (m3 : (mI M' 2 (x + 9) 0) = nI ((nx + 1) % 50)) (m4 : ∀ i, (mR M' 5000007 (x + 10) (i)) = if i = nx then some (ka kk) else (mR M 5000007 (x + 10) (i))) (m5 : ∀ i, (mL M' 2000016 (x + 11) (i)) = if i = nx then kL c 27 e else (mL M 2000016 (x + 11) (i))) : MS M' x (acC c e kk na) nk ka dp ns nl la ch S0 U0 cu nf lg wn := by
  obtain ⟨g1, g2, g3, g4⟩ := ac_at (c := c) (e := e) (kk := kk) a1
  have Fc := ac_skn (c := c) (e := e) (kk := kk) (na := na)
  have S := r0_sh R.1
  have K := r0_k R.1
  have zs := rz_s (r0_z R.1)
  have zu := rz_u (r0_z R.1)
  refine ⟨⟨⟨by rw [F.2.2.1]; exact zs, by rw [F.2.2.2.1]; exact zu, hcl⟩, SH_fx F (by decide) (by decide) S, ?_, ?_, ?_, ?_, ?_, ?_⟩, ?_, ?_⟩
  · refine ⟨rk_le K, by rw [F.i 401 (by decide)]; exact rk_sz K, by rw [(Fc 0 (by decide)).1]; exact rk_c K, fun i hi => ?_⟩
    have I := rk_i K i hi
    refine ⟨by rw [F.r 5022007 (by decide)]; exact ki_at I, by rw [F.1]; exact ki_k I, by rw [F.i 300 (by decide)]; exact ki_num I, by rw [F.i 301 (by decide)]; exact ki_dep I, ki_dp I, by rw [m1 i hi, g1], ?_⟩
    rw [(Fc 1 (by decide)).1, F.l 302 (by decide)]; exact ki_par I
  · rw [RLs_skn Fc (by decide), RLs_fx F (by decide) (by decide) (by decide)]; exact r0_l R.1
  · rw [RC_skn Fc (by decide), RC_fx F (by decide)]; exact r0_c R.1
  · rw [RS_skn Fc (by decide), RS_fx F (by decide)]; exact r0_s R.1
  · rw [RT_skn Fc (by decide), RT_fx F (by decide) (by decide)]; exact r0_t R.1
  · by_cases h : na = 50
    · subst h
      simp only [if_true] at g2 g3 g4 m2
      refine ⟨50, (nx + 1) % 50, Nat.le_refl _, Nat.mod_lt _ (by decide), m2, g2, m3, fun j hj => ?_⟩
      by_cases q : j = 49
      · subst q
        rw [show ((nx + 1) % 50 + 50 - 50 + 49) % 50 = nx by omega, m4, m5, if_pos rfl, if_pos rfl, g3, g4, if_pos rfl, if_pos rfl]
        exact ⟨kk, hkk, rfl, rfl, rfl⟩
      · obtain ⟨k, k1, k2, k3, k4⟩ := a6 (j + 1) (by omega)
        rw [show ((nx + 1) % 50 + 50 - 50 + j) % 50 = (nx + 50 - 50 + (j + 1)) % 50 by omega, m4, m5, if_neg (by omega), if_neg (by omega), g3, g4, if_neg q, if_neg q]
        unfold shf
        rw [if_pos (by omega), if_pos (by omega)]
        exact ⟨k, k1, k2, k3, k4⟩
    · simp only [h, if_false] at g2 g3 g4 m2
      refine ⟨na + 1, (nx + 1) % 50, by omega, Nat.mod_lt _ (by decide), m2, g2, m3, fun j hj => ?_⟩
      by_cases q : j = na
      · rw [q, show ((nx + 1) % 50 + 50 - (na + 1) + na) % 50 = nx by omega, m4, m5, if_pos rfl, if_pos rfl, g3, g4, if_pos rfl, if_pos rfl]
        exact ⟨kk, hkk, rfl, rfl, rfl⟩
      · obtain ⟨k, k1, k2, k3, k4⟩ := a6 j (by omega)
        rw [show ((nx + 1) % 50 + 50 - (na + 1) + j) % 50 = (nx + 50 - na + j) % 50 by omega, m4, m5, if_neg (by omega), if_neg (by omega), g3, g4, if_neg q, if_neg q]
        exact ⟨k, k1, k2, k3, k4⟩
  · rw [RP_skn Fc (by decide), RP_fx F (by decide) (by decide)]; exact R.2.1
  · rw [RW_skn Fc (by decide), RW_fx F (by decide) (by decide) (by decide)]; exact R.2.2
/-- from the cue's begin to now -/
def Ks (x e : Nat) (c c' : Core) (M M' : Mem) : Prop := Cfr x e M M' ∧ Ofr e c c' ∧ kI c' 25 0 = kI c 25 0 ∧ kI c' 26 e = kI c 26 e ∧ kI c' 31 e = kI c 31 e ∧ (mR M' 199 ((x + 37 + e)) 0) = (mR M 199 ((x + 37 + e)) 0) ∧ (mI M' 104 ((x + 37 + e)) 0) = (mI M 104 ((x + 37 + e)) 0) ∧ kI c' 39 0 = kI c 39 0 ∧ kI c' 46 0 = kI c 46 0 ∧ kL c' 47 0 = kL c 47 0
theorem Ks.tr {x e : Nat} {c c1 c2 : Core} {M M1 M2 : Mem} (h : Ks x e c c1 M M1) (g : Ks x e c1 c2 M1 M2) : Ks x e c c2 M M2 := by
  obtain ⟨a1, a2, a3, a4, a5, a6, a7, a8, a9, a10⟩ := h
  obtain ⟨b1, b2, b3, b4, b5, b6, b7, b8, b9, b10⟩ := g
  exact ⟨a1.tr b1, a2.tr b2, b3.trans a3, b4.trans a4, b5.trans a5, b6.trans a6, b7.trans a7, b8.trans a8, b9.trans a9, b10.trans a10⟩
theorem Ks.of {x e : Nat} {c c' : Core} {M M' : Mem} (h : Kr x e c c' M M') : Ks x e c c' M M' := by
  obtain ⟨a1, a2, a3, a4, a5, a6, ⟨a7, a8⟩, a9, a10, a11, a12⟩ := h
  exact ⟨a1, a2, a3, a4 26 (by decide), a4 31 (by decide), a7, a8, a10, a11, a12⟩
theorem Ks_bp {x e : Nat} {c : Core} {M : Mem} {ph : Int32} {ts : List Nat} : Ks x e c (bpC c e ph ts) M M := ⟨Cfr.rf, bp_O, (bp_skn 25 (by decide)).1 0, (bp_skn 26 (by decide)).1 e, (bp_skn 31 (by decide)).1 e, rfl, rfl, (bp_skn 39 (by decide)).1 0, (bp_skn 46 (by decide)).1 0, (bp_skn 47 (by decide)).2 0⟩
theorem Ks_ac {x e kk na : Nat} {c : Core} {M M' : Mem} (F : Fx [2, 3] [303, 2000016] [5000007] M M') : Ks x e c (acC c e kk na) M M' := ⟨Cfr_fx (Fz.of F) (by decide) (by decide) (by decide) (by decide), ⟨fun e' _ => ⟨fun k hk => (ac_skn k (by simp only [List.mem_cons, List.not_mem_nil, or_false] at hk ⊢; omega)).1 e', (ac_skn 27 (by decide)).2 e', (ac_skn 35 (by decide)).2 e'⟩, fun q _ => (ac_skn 22 (by decide)).1 q⟩, (ac_skn 25 (by decide)).1 0, (ac_skn 26 (by decide)).1 e, (ac_skn 31 (by decide)).1 e, by rw [F.r 199 (by decide)], by rw [F.i 104 (by decide)], (ac_skn 39 (by decide)).1 0, (ac_skn 46 (by decide)).1 0, (ac_skn 47 (by decide)).2 0⟩
/-- a cue comes to its end, not vetoed -/
theorem Fin_end {b : Int32} {x e : Nat} {c0 c : Core} {M0 M : Mem} (hC : Cfr x e M0 M) (hO : Ofr e c0 c) (h39 : kI c 39 0 = kI c0 39 0) (h46 : kI c 46 0 = kI c0 46 0) (h47 : kL c 47 0 = kL c0 47 0) (h31 : kI c 31 e = 0) (hv : (mI M 104 ((x + 37 + e)) 0) = -4) (hval : (mL M 102 ((x + 37 + e)) 0) = kL c 27 e) : Fin b x e c0 M0 (enC c e b) M := by
  have key : Fin b x e c M (enC c e b) M := by
    by_cases he : e = 0
    · subst he
      by_cases hb : b = 0
      · have ec : enC c 0 b = uI c 25 0 (nI 0) := by unfold enC; rw [if_pos rfl, if_pos hb]
        rw [ec]
        refine ⟨by rw [kI_uI, if_pos ⟨rfl, rfl⟩], ⟨fun e' h => absurd h (by omega), fun q h => absurd h (by omega)⟩, Cfr.rf, fun e1 h => absurd h (by omega), fun _ => ⟨rfl, rfl, rfl⟩, fun _ h => absurd hb h⟩
      · have ec : enC c 0 b = uL (uI (uI c 25 0 (nI 0)) 39 0 (kI c 31 (0))) 47 0 (kL c 27 (0)) := by unfold enC; rw [if_pos rfl, if_neg hb]
        rw [ec]
        refine ⟨rfl, ⟨fun e' h => absurd h (by omega), fun q h => absurd h (by omega)⟩, Cfr.rf, fun e1 h => absurd h (by omega), fun h => absurd ⟨rfl, hb⟩ h, fun _ _ => ⟨hval.symm, Or.inl ⟨hv, h31, rfl⟩⟩⟩
    · obtain ⟨e1, rfl⟩ : ∃ e1, e = e1 + 1 := ⟨e - 1, by omega⟩
      have ec : enC c (e1 + 1) b = uL (uI c 25 0 (nI (e1 + 1))) 35 e1 (kL c 27 (e1 + 1)) := by
        unfold enC
        rw [if_neg (by omega), if_pos h31]; rfl
      rw [ec]
      refine ⟨rfl, ⟨fun e' h => ⟨fun k hk => ?_, rfl, fun h2 => ?_⟩, fun q h => rfl⟩, Cfr.rf, fun e2 h => ?_, fun _ => ⟨rfl, rfl, rfl⟩, fun h => absurd h (by omega)⟩
      · simp only [List.mem_cons, List.not_mem_nil, or_false] at hk
        rw [kI_uL, kI_uI, if_neg (fun q => by omega)]
      · rw [kL_uL, if_neg (fun q => by omega)]; rfl
      · have : e2 = e1 := by omega
        subst this
        rw [if_pos hv, kL_uL, if_pos ⟨rfl, rfl⟩, hval]
  exact Fin_of hC hO h39 h46 h47 key
